-- needs: 4
theorem dX9_put_0 : decode cX9_put 0 = .ok (.bipush 24, 2) := by decide +kernel
theorem dX9_put_2 : decode cX9_put 2 = .ok (.istore_n 2, 1) := by decide +kernel
theorem dX9_put_3 : decode cX9_put 3 = .ok (.iload_n 2, 1) := by decide +kernel
theorem dX9_put_4 : decode cX9_put 4 = .ok (.ifCond .lt 42, 3) := by decide +kernel
theorem dX9_put_7 : decode cX9_put 7 = .ok (.aload_n 0, 1) := by decide +kernel
theorem dX9_put_8 : decode cX9_put 8 = .ok (.getfield 33, 3) := by decide +kernel
theorem dX9_put_11 : decode cX9_put 11 = .ok (.sipush 940, 3) := by decide +kernel
theorem dX9_put_14 : decode cX9_put 14 = .ok (.if_icmp .ge 26, 3) := by decide +kernel
theorem dX9_put_17 : decode cX9_put 17 = .ok (.aload_n 0, 1) := by decide +kernel
theorem dX9_put_18 : decode cX9_put 18 = .ok (.getfield 15, 3) := by decide +kernel
theorem dX9_put_21 : decode cX9_put 21 = .ok (.aload_n 0, 1) := by decide +kernel
theorem dX9_put_22 : decode cX9_put 22 = .ok (.getfield 33, 3) := by decide +kernel
theorem dX9_put_25 : decode cX9_put 25 = .ok (.iload_n 1, 1) := by decide +kernel
theorem dX9_put_26 : decode cX9_put 26 = .ok (.iload_n 2, 1) := by decide +kernel
theorem dX9_put_27 : decode cX9_put 27 = .ok (.iushr, 1) := by decide +kernel
theorem dX9_put_28 : decode cX9_put 28 = .ok (.i2b, 1) := by decide +kernel
theorem dX9_put_29 : decode cX9_put 29 = .ok (.bastore, 1) := by decide +kernel
theorem dX9_put_30 : decode cX9_put 30 = .ok (.aload_n 0, 1) := by decide +kernel
theorem dX9_put_31 : decode cX9_put 31 = .ok (.dup, 1) := by decide +kernel
theorem dX9_put_32 : decode cX9_put 32 = .ok (.getfield 33, 3) := by decide +kernel
theorem dX9_put_35 : decode cX9_put 35 = .ok (.iconst 1, 1) := by decide +kernel
theorem dX9_put_36 : decode cX9_put 36 = .ok (.iadd, 1) := by decide +kernel
theorem dX9_put_37 : decode cX9_put 37 = .ok (.putfield 33, 3) := by decide +kernel
theorem dX9_put_40 : decode cX9_put 40 = .ok (.iinc 2 (-8), 3) := by decide +kernel
theorem dX9_put_43 : decode cX9_put 43 = .ok (.goto (-40), 3) := by decide +kernel
theorem dX9_put_46 : decode cX9_put 46 = .ok (.return_, 1) := by decide +kernel
set_option maxHeartbeats 4000000 in
set_option maxRecDepth 100000 in
theorem s_X9_put {l : Launch} {G : Gc} (qt : Nat) (a1 : Int32) (qt_keyCodes : Nat) (qt_bytes : Nat) (qt_size : Int32) (qt_most : Int32) (qt_from : Int32) (qt_kind : Int32) (qt_place : Int32) (qt_value : Int32) (qt_code : Int64) (qt_key : Int32) (qt_fault : Int32) (qt_faultPlace : Int32) (qt_bytes_c : Nat → Int32) (hi_qt_size : 0 ≤ qt_size.toInt ∧ qt_size.toInt ≤ 940) : Cv l yX9_put cX9_put 3 0 0 0 G [.ref qt, .int a1] [(qt, .inr (8, [.ref qt_keyCodes, .ref qt_bytes, .int qt_size, .int qt_most, .int qt_from, .int qt_kind, .int qt_place, .int qt_value, .long qt_code, .int qt_key, .int qt_fault, .int qt_faultPlace])), (qt_bytes, eB G 940 qt_bytes_c)] (fun (u9 : va_W) => ∃ (x0_qt_size : Int32) (x1_qt_bytes_c : Nat → Int32), u9 = [(qt, .inr (8, [.ref qt_keyCodes, .ref qt_bytes, .int x0_qt_size, .int qt_most, .int qt_from, .int qt_kind, .int qt_place, .int qt_value, .long qt_code, .int qt_key, .int qt_fault, .int qt_faultPlace])), (qt_bytes, eB G 940 x1_qt_bytes_c)] ∧ (0 ≤ x0_qt_size.toInt ∧ x0_qt_size.toInt ≤ 940)) := by
  refine Cv.ofQ (by decide) (Nat.le_of_ble_eq_true rfl) ?_
  intro p e s m below meth c ls A args Q hQ B hw hl
  have C : CallFix p m c cX9_put 3 s args gw "LanternState$Tape" := B.1
  have hl : lv_has ls 3 [(0, .ref qt), (1, .int a1)] := hl
  refine lv_bipush (v := 24) C.1 C.2.1 dX9_put_0 (by decide) ?_
  refine lv_istore_n (lv' := [(2, .int 24), (0, .ref qt), (1, .int a1)]) C.1 C.2.1 dX9_put_2 rfl hl (by decide) rfl (fun ls hl => ?_)
  have loopJ59 : ∀ (n9 : Nat) (j56 : Int32) (j57 : Int32) (j58 : Nat → Int32), (j56.toInt + 2147483648).toNat < n9 → (-8 ≤ j56.toInt ∧ j56.toInt ≤ 24) → (0 ≤ j57.toInt ∧ j57.toInt ≤ 940) → ∀ (H : Heap) (locs : List Loc) (ls : Array Slot), Wd G s A [(qt, .inr (8, [.ref qt_keyCodes, .ref qt_bytes, .int j57, .int qt_most, .int qt_from, .int qt_kind, .int qt_place, .int qt_value, .long qt_code, .int qt_key, .int qt_fault, .int qt_faultPlace])), (qt_bytes, eB G 940 j58)] H locs → lv_has ls 3 [(2, .int j56), (0, .ref qt), (1, .int a1)] → W p l e (rmD 0 0 0) s m args below meth c H locs 0 0 Q (F0 m 3 ls []) := by
    intro n9
    induction n9 with
    | zero => intro j56 j57 j58 h9; exact absurd h9 (Nat.not_lt_zero _)
    | succ n9 ihJ59 =>
      intro j56 j57 j58 h9J59 hJ59_0 hJ59_1 H locs ls hw hl
      have hbj56 := i_bd j56
      refine lv_iload_n C.1 C.2.1 dX9_put_3 rfl (lv_at hl 0 rfl) ?_
      refine lv_if_lt (tgt := 46) C.1 C.2.1 dX9_put_4 (by decide) (fun c70 => ?_) (fun c70 => ?_)
      · skip
        have c70 : j56.toInt < 0 := i_ltT (X := j56.toInt) (Y := 0) rfl rfl c70
        exact x_retvQ hQ B hw ⟨j57, j58, rfl, (by omega)⟩ (Nat.le_of_ble_eq_true rfl) (Nat.le_of_ble_eq_true rfl) dX9_put_46
      · skip
        have c70 : 0 ≤ j56.toInt := i_ltF (X := j56.toInt) (Y := 0) rfl rfl c70
        refine lv_aload_n C.1 C.2.1 dX9_put_7 rfl (lv_at hl 1 rfl) ?_
        refine x_get C hw iwX9 8 rfl 0 rfl 2 (by decide) kw91 rfl dX9_put_8 ?_
        refine lv_sipush (v := 940) C.1 C.2.1 dX9_put_11 (by decide) ?_
        have J78 : ∀ (j76 : Int32) (j77 : Nat → Int32), (1 ≤ j76.toInt ∧ j76.toInt ≤ 940) → ∀ (H : Heap) (locs : List Loc) (ls : Array Slot), Wd G s A [(qt, .inr (8, [.ref qt_keyCodes, .ref qt_bytes, .int j76, .int qt_most, .int qt_from, .int qt_kind, .int qt_place, .int qt_value, .long qt_code, .int qt_key, .int qt_fault, .int qt_faultPlace])), (qt_bytes, eB G 940 j77)] H locs → lv_has ls 3 [(2, .int j56), (0, .ref qt), (1, .int a1)] → W p l e (rmD 0 0 0) s m args below meth c H locs 0 0 Q (F0 m 40 ls []) := by
          intro j76 j77 hJ78_0 H locs ls hw hl
          obtain ⟨v79, ev79⟩ : ∃ z : Int32, j56 + (-8) = z := ⟨_, rfl⟩
          have hv79 : v79.toInt = j56.toInt + (-8) := by rw [← ev79]; exact i_add rfl rfl (by omega) (by omega)
          refine lv_iinc (v := v79) (lv' := [(2, .int v79), (0, .ref qt), (1, .int a1)]) C.1 C.2.1 dX9_put_40 hl (k := 0) rfl ev79 (by decide) rfl (fun ls hl => ?_)
          refine lv_goto (tgt := 3) C.1 C.2.1 dX9_put_43 (by decide) ?_
          exact ihJ59 v79 j76 j77 (by omega) (by omega) (by omega) _ _ _ hw (lv_sub hl [0, 1, 2] rfl)
        refine lv_icmp_ge (tgt := 40) C.1 C.2.1 dX9_put_14 (by decide) (fun c71 => ?_) (fun c71 => ?_)
        · skip
          have c71 : 940 ≤ j57.toInt := i_leT (X := 940) (Y := j57.toInt) rfl rfl c71
          exact J78 j57 j58  (by omega) _ _ _ hw (lv_sub hl [0, 1, 2] rfl)
        · skip
          have c71 : j57.toInt < 940 := i_leF (X := 940) (Y := j57.toInt) rfl rfl c71
          refine lv_aload_n C.1 C.2.1 dX9_put_17 rfl (lv_at hl 1 rfl) ?_
          refine x_get C hw iwX9 8 rfl 0 rfl 1 (by decide) kw89 rfl dX9_put_18 ?_
          refine lv_aload_n C.1 C.2.1 dX9_put_21 rfl (lv_at hl 1 rfl) ?_
          refine x_get C hw iwX9 8 rfl 0 rfl 2 (by decide) kw91 rfl dX9_put_22 ?_
          refine lv_iload_n C.1 C.2.1 dX9_put_25 rfl (lv_at hl 2 rfl) ?_
          refine lv_iload_n C.1 C.2.1 dX9_put_26 rfl (lv_at hl 0 rfl) ?_
          refine lv_iushr (v := ((a1.toUInt32 >>> (j56.toUInt32 &&& Int32.toUInt32 31)).toInt32)) C.1 C.2.1 dX9_put_27 rfl (x_gen (fun v80 => ?_))
          refine lv_i2b (v := v80.toInt8.toInt32) C.1 C.2.1 dX9_put_28 rfl (x_gen (fun v81 => ?_))
          obtain ⟨g82, eg82⟩ : ∃ z, upd j58 (j57.toNatClampNeg) (vp_nar .byte v81) = z := ⟨_, rfl⟩
          refine x_bast (f' := g82) (w' := [(qt, .inr (8, [.ref qt_keyCodes, .ref qt_bytes, .int j57, .int qt_most, .int qt_from, .int qt_kind, .int qt_place, .int qt_value, .long qt_code, .int qt_key, .int qt_fault, .int qt_faultPlace])), (qt_bytes, eB G 940 g82)]) C hw 1 rfl (i_in (by omega) (by omega)) eg82 rfl dX9_put_29 (fun H locs hw => ?_)
          refine lv_aload_n C.1 C.2.1 dX9_put_30 rfl (lv_at hl 1 rfl) ?_
          refine lv_dup C.1 C.2.1 dX9_put_31 rfl ?_
          refine x_get C hw iwX9 8 rfl 0 rfl 2 (by decide) kw91 rfl dX9_put_32 ?_
          refine lv_iconst (v := 1) C.1 C.2.1 dX9_put_35 (by decide) ?_
          refine lv_iadd C.1 C.2.1 dX9_put_36 (x_genP (fun z : Int32 => z.toInt = j57.toInt + 1) (i_add (X := j57.toInt) (Y := 1) rfl rfl (by omega) (by omega)) (fun v83 hv83 => ?_))
          refine x_put (w' := [(qt, .inr (8, [.ref qt_keyCodes, .ref qt_bytes, .int v83, .int qt_most, .int qt_from, .int qt_kind, .int qt_place, .int qt_value, .long qt_code, .int qt_key, .int qt_fault, .int qt_faultPlace])), (qt_bytes, eB G 940 g82)]) C hw iwX9 tyX9_ok nmX9 8 rfl 0 rfl 2 (by decide) kw91 rfl rfl rfl (Nat.le_of_ble_eq_true rfl) rfl dX9_put_37 (fun H locs hw => ?_)
          exact J78 v83 g82  (by omega) _ _ _ hw (lv_sub hl [0, 1, 2] rfl)
  exact loopJ59 _ 24 qt_size qt_bytes_c (Nat.lt_succ_self _) (by decide) (by omega) _ _ _ hw (lv_sub hl [0, 1, 2] rfl)
theorem dX9_at_0 : decode cX9_at 0 = .ok (.iload_n 1, 1) := by decide +kernel
theorem dX9_at_1 : decode cX9_at 1 = .ok (.ifCond .lt 31, 3) := by decide +kernel
theorem dX9_at_32 : decode cX9_at 32 = .ok (.iconst (-1), 1) := by decide +kernel
theorem dX9_at_33 : decode cX9_at 33 = .ok (.ireturn, 1) := by decide +kernel
theorem dX9_at_4 : decode cX9_at 4 = .ok (.iload_n 1, 1) := by decide +kernel
theorem dX9_at_5 : decode cX9_at 5 = .ok (.aload_n 0, 1) := by decide +kernel
theorem dX9_at_6 : decode cX9_at 6 = .ok (.getfield 33, 3) := by decide +kernel
theorem dX9_at_9 : decode cX9_at 9 = .ok (.if_icmp .ge 23, 3) := by decide +kernel
theorem dX9_at_12 : decode cX9_at 12 = .ok (.iload_n 1, 1) := by decide +kernel
theorem dX9_at_13 : decode cX9_at 13 = .ok (.sipush 940, 3) := by decide +kernel
theorem dX9_at_16 : decode cX9_at 16 = .ok (.if_icmp .ge 16, 3) := by decide +kernel
theorem dX9_at_19 : decode cX9_at 19 = .ok (.aload_n 0, 1) := by decide +kernel
theorem dX9_at_20 : decode cX9_at 20 = .ok (.getfield 15, 3) := by decide +kernel
theorem dX9_at_23 : decode cX9_at 23 = .ok (.iload_n 1, 1) := by decide +kernel
theorem dX9_at_24 : decode cX9_at 24 = .ok (.baload, 1) := by decide +kernel
theorem dX9_at_25 : decode cX9_at 25 = .ok (.sipush 255, 3) := by decide +kernel
theorem dX9_at_28 : decode cX9_at 28 = .ok (.iand, 1) := by decide +kernel
theorem dX9_at_29 : decode cX9_at 29 = .ok (.goto 4, 3) := by decide +kernel
set_option maxHeartbeats 4000000 in
set_option maxRecDepth 100000 in
theorem s_X9_at {l : Launch} {G : Gc} (qt : Nat) (a1 : Int32) (qt_keyCodes : Nat) (qt_bytes : Nat) (qt_size : Int32) (qt_most : Int32) (qt_from : Int32) (qt_kind : Int32) (qt_place : Int32) (qt_value : Int32) (qt_code : Int64) (qt_key : Int32) (qt_fault : Int32) (qt_faultPlace : Int32) (qt_bytes_c : Nat → Int32) (hi_qt_size : 0 ≤ qt_size.toInt ∧ qt_size.toInt ≤ 940) : Ci l yX9_at cX9_at 2 (some .int) 0 0 0 G [.ref qt, .int a1] [(qt, .inr (8, [.ref qt_keyCodes, .ref qt_bytes, .int qt_size, .int qt_most, .int qt_from, .int qt_kind, .int qt_place, .int qt_value, .long qt_code, .int qt_key, .int qt_fault, .int qt_faultPlace])), (qt_bytes, eB G 940 qt_bytes_c)] (fun (r9 : Int32) (u9 : va_W) => ∃ (r_x : Int32), r9 = r_x ∧ u9 = [(qt, .inr (8, [.ref qt_keyCodes, .ref qt_bytes, .int qt_size, .int qt_most, .int qt_from, .int qt_kind, .int qt_place, .int qt_value, .long qt_code, .int qt_key, .int qt_fault, .int qt_faultPlace])), (qt_bytes, eB G 940 qt_bytes_c)] ∧ ((-1) ≤ r_x.toInt ∧ r_x.toInt ≤ 255)) := by
  refine Ci.ofQ (by decide) (Nat.le_of_ble_eq_true rfl) ?_
  intro p e s m below meth c ls A args Q hQ B hw hl
  have C : CallFix p m c cX9_at 2 s args gw "LanternState$Tape" := B.1
  have hl : lv_has ls 2 [(0, .ref qt), (1, .int a1)] := hl
  refine lv_iload_n C.1 C.2.1 dX9_at_0 rfl (lv_at hl 1 rfl) ?_
  refine lv_if_lt (tgt := 32) C.1 C.2.1 dX9_at_1 (by decide) (fun c1 => ?_) (fun c1 => ?_)
  · skip
    have c1 : a1.toInt < 0 := i_ltT (X := a1.toInt) (Y := 0) rfl rfl c1
    have bc1_a1 := i_bd a1
    refine lv_iconst (v := (-1)) C.1 C.2.1 dX9_at_32 (by decide) ?_
    exact x_retiQ hQ B hw ⟨(-1), rfl, rfl, (by decide)⟩ (Nat.le_of_ble_eq_true rfl) (Nat.le_of_ble_eq_true rfl) dX9_at_33
  · skip
    have c1 : 0 ≤ a1.toInt := i_ltF (X := a1.toInt) (Y := 0) rfl rfl c1
    have bc1_a1 := i_bd a1
    refine lv_iload_n C.1 C.2.1 dX9_at_4 rfl (lv_at hl 1 rfl) ?_
    refine lv_aload_n C.1 C.2.1 dX9_at_5 rfl (lv_at hl 0 rfl) ?_
    refine x_get C hw iwX9 8 rfl 0 rfl 2 (by decide) kw91 rfl dX9_at_6 ?_
    refine lv_icmp_ge (tgt := 32) C.1 C.2.1 dX9_at_9 (by decide) (fun c2 => ?_) (fun c2 => ?_)
    · skip
      have c2 : qt_size.toInt ≤ a1.toInt := i_leT (X := qt_size.toInt) (Y := a1.toInt) rfl rfl c2
      have bc2_a1 := i_bd a1
      refine lv_iconst (v := (-1)) C.1 C.2.1 dX9_at_32 (by decide) ?_
      exact x_retiQ hQ B hw ⟨(-1), rfl, rfl, (by decide)⟩ (Nat.le_of_ble_eq_true rfl) (Nat.le_of_ble_eq_true rfl) dX9_at_33
    · skip
      have c2 : a1.toInt < qt_size.toInt := i_leF (X := qt_size.toInt) (Y := a1.toInt) rfl rfl c2
      have bc2_a1 := i_bd a1
      refine lv_iload_n C.1 C.2.1 dX9_at_12 rfl (lv_at hl 1 rfl) ?_
      refine lv_sipush (v := 940) C.1 C.2.1 dX9_at_13 (by decide) ?_
      refine lv_icmp_ge (tgt := 32) C.1 C.2.1 dX9_at_16 (by decide) (fun c3 => ?_) (fun c3 => ?_)
      · skip
        have c3 : 940 ≤ a1.toInt := i_leT (X := 940) (Y := a1.toInt) rfl rfl c3
        exfalso; omega
      · skip
        have c3 : a1.toInt < 940 := i_leF (X := 940) (Y := a1.toInt) rfl rfl c3
        refine lv_aload_n C.1 C.2.1 dX9_at_19 rfl (lv_at hl 0 rfl) ?_
        refine x_get C hw iwX9 8 rfl 0 rfl 1 (by decide) kw89 rfl dX9_at_20 ?_
        refine lv_iload_n C.1 C.2.1 dX9_at_23 rfl (lv_at hl 1 rfl) ?_
        refine x_bald (v := (qt_bytes_c a1.toNatClampNeg)) C hw 1 rfl (i_in (by omega) (by omega)) rfl dX9_at_24 (x_gen (fun v4 => ?_))
        refine lv_sipush (v := 255) C.1 C.2.1 dX9_at_25 (by decide) ?_
        refine lv_iand C.1 C.2.1 dX9_at_28 (x_genP (fun z : Int32 => 0 ≤ z.toInt ∧ z.toInt ≤ 255) (i_andR 8 rfl (by decide) rfl) (fun v5 hv5 => ?_))
        refine lv_goto (tgt := 33) C.1 C.2.1 dX9_at_29 (by decide) ?_
        exact x_retiQ hQ B hw ⟨v5, rfl, rfl, (by omega)⟩ (Nat.le_of_ble_eq_true rfl) (Nat.le_of_ble_eq_true rfl) dX9_at_33
theorem dX9_open_0 : decode cX9_open 0 = .ok (.aload_n 0, 1) := by decide +kernel
theorem dX9_open_1 : decode cX9_open 1 = .ok (.iload_n 1, 1) := by decide +kernel
theorem dX9_open_2 : decode cX9_open 2 = .ok (.putfield 47, 3) := by decide +kernel
theorem dX9_open_5 : decode cX9_open 5 = .ok (.aload_n 0, 1) := by decide +kernel
theorem dX9_open_6 : decode cX9_open 6 = .ok (.iconst 0, 1) := by decide +kernel
theorem dX9_open_7 : decode cX9_open 7 = .ok (.putfield 50, 3) := by decide +kernel
theorem dX9_open_10 : decode cX9_open 10 = .ok (.aload_n 0, 1) := by decide +kernel
theorem dX9_open_11 : decode cX9_open 11 = .ok (.iconst 0, 1) := by decide +kernel
theorem dX9_open_12 : decode cX9_open 12 = .ok (.putfield 53, 3) := by decide +kernel
theorem dX9_open_15 : decode cX9_open 15 = .ok (.aload_n 0, 1) := by decide +kernel
theorem dX9_open_16 : decode cX9_open 16 = .ok (.iconst 0, 1) := by decide +kernel
theorem dX9_open_17 : decode cX9_open 17 = .ok (.putfield 56, 3) := by decide +kernel
theorem dX9_open_20 : decode cX9_open 20 = .ok (.return_, 1) := by decide +kernel
set_option maxHeartbeats 4000000 in
set_option maxRecDepth 100000 in
theorem s_X9_open {l : Launch} {G : Gc} (qt : Nat) (a1 : Int32) (qt_keyCodes : Nat) (qt_bytes : Nat) (qt_size : Int32) (qt_most : Int32) (qt_from : Int32) (qt_kind : Int32) (qt_place : Int32) (qt_value : Int32) (qt_code : Int64) (qt_key : Int32) (qt_fault : Int32) (qt_faultPlace : Int32) (hi_qt_size : 0 ≤ qt_size.toInt ∧ qt_size.toInt ≤ 940) : Cv l yX9_open cX9_open 2 0 0 0 G [.ref qt, .int a1] [(qt, .inr (8, [.ref qt_keyCodes, .ref qt_bytes, .int qt_size, .int qt_most, .int qt_from, .int qt_kind, .int qt_place, .int qt_value, .long qt_code, .int qt_key, .int qt_fault, .int qt_faultPlace]))] (fun (u9 : va_W) => u9 = [(qt, .inr (8, [.ref qt_keyCodes, .ref qt_bytes, .int qt_size, .int a1, .int 0, .int qt_kind, .int qt_place, .int qt_value, .long qt_code, .int qt_key, .int 0, .int 0]))]) := by
  refine Cv.ofQ (by decide) (Nat.le_of_ble_eq_true rfl) ?_
  intro p e s m below meth c ls A args Q hQ B hw hl
  have C : CallFix p m c cX9_open 2 s args gw "LanternState$Tape" := B.1
  have hl : lv_has ls 2 [(0, .ref qt), (1, .int a1)] := hl
  refine lv_aload_n C.1 C.2.1 dX9_open_0 rfl (lv_at hl 0 rfl) ?_
  refine lv_iload_n C.1 C.2.1 dX9_open_1 rfl (lv_at hl 1 rfl) ?_
  refine x_put (w' := [(qt, .inr (8, [.ref qt_keyCodes, .ref qt_bytes, .int qt_size, .int a1, .int qt_from, .int qt_kind, .int qt_place, .int qt_value, .long qt_code, .int qt_key, .int qt_fault, .int qt_faultPlace]))]) C hw iwX9 tyX9_ok nmX9 8 rfl 0 rfl 3 (by decide) kw92 rfl rfl rfl (Nat.le_of_ble_eq_true rfl) rfl dX9_open_2 (fun H locs hw => ?_)
  refine lv_aload_n C.1 C.2.1 dX9_open_5 rfl (lv_at hl 0 rfl) ?_
  refine lv_iconst (v := 0) C.1 C.2.1 dX9_open_6 (by decide) ?_
  refine x_put (w' := [(qt, .inr (8, [.ref qt_keyCodes, .ref qt_bytes, .int qt_size, .int a1, .int 0, .int qt_kind, .int qt_place, .int qt_value, .long qt_code, .int qt_key, .int qt_fault, .int qt_faultPlace]))]) C hw iwX9 tyX9_ok nmX9 8 rfl 0 rfl 4 (by decide) kw93 rfl rfl rfl (Nat.le_of_ble_eq_true rfl) rfl dX9_open_7 (fun H locs hw => ?_)
  refine lv_aload_n C.1 C.2.1 dX9_open_10 rfl (lv_at hl 0 rfl) ?_
  refine lv_iconst (v := 0) C.1 C.2.1 dX9_open_11 (by decide) ?_
  refine x_put (w' := [(qt, .inr (8, [.ref qt_keyCodes, .ref qt_bytes, .int qt_size, .int a1, .int 0, .int qt_kind, .int qt_place, .int qt_value, .long qt_code, .int qt_key, .int 0, .int qt_faultPlace]))]) C hw iwX9 tyX9_ok nmX9 8 rfl 0 rfl 10 (by decide) kw110 rfl rfl rfl (Nat.le_of_ble_eq_true rfl) rfl dX9_open_12 (fun H locs hw => ?_)
  refine lv_aload_n C.1 C.2.1 dX9_open_15 rfl (lv_at hl 0 rfl) ?_
  refine lv_iconst (v := 0) C.1 C.2.1 dX9_open_16 (by decide) ?_
  refine x_put (w' := [(qt, .inr (8, [.ref qt_keyCodes, .ref qt_bytes, .int qt_size, .int a1, .int 0, .int qt_kind, .int qt_place, .int qt_value, .long qt_code, .int qt_key, .int 0, .int 0]))]) C hw iwX9 tyX9_ok nmX9 8 rfl 0 rfl 11 (by decide) kw113 rfl rfl rfl (Nat.le_of_ble_eq_true rfl) rfl dX9_open_17 (fun H locs hw => ?_)
  exact x_retvQ hQ B hw rfl (Nat.le_of_ble_eq_true rfl) (Nat.le_of_ble_eq_true rfl) dX9_open_20
theorem dX9_fail_0 : decode cX9_fail 0 = .ok (.aload_n 0, 1) := by decide +kernel
theorem dX9_fail_1 : decode cX9_fail 1 = .ok (.getfield 53, 3) := by decide +kernel
theorem dX9_fail_4 : decode cX9_fail 4 = .ok (.ifCond .ne 16, 3) := by decide +kernel
theorem dX9_fail_20 : decode cX9_fail 20 = .ok (.iconst 0, 1) := by decide +kernel
theorem dX9_fail_21 : decode cX9_fail 21 = .ok (.ireturn, 1) := by decide +kernel
theorem dX9_fail_7 : decode cX9_fail 7 = .ok (.aload_n 0, 1) := by decide +kernel
theorem dX9_fail_8 : decode cX9_fail 8 = .ok (.iload_n 1, 1) := by decide +kernel
theorem dX9_fail_9 : decode cX9_fail 9 = .ok (.putfield 53, 3) := by decide +kernel
theorem dX9_fail_12 : decode cX9_fail 12 = .ok (.aload_n 0, 1) := by decide +kernel
theorem dX9_fail_13 : decode cX9_fail 13 = .ok (.aload_n 0, 1) := by decide +kernel
theorem dX9_fail_14 : decode cX9_fail 14 = .ok (.getfield 59, 3) := by decide +kernel
theorem dX9_fail_17 : decode cX9_fail 17 = .ok (.putfield 56, 3) := by decide +kernel
set_option maxHeartbeats 4000000 in
set_option maxRecDepth 100000 in
theorem s_X9_fail {l : Launch} {G : Gc} (qt : Nat) (a1 : Int32) (qt_keyCodes : Nat) (qt_bytes : Nat) (qt_size : Int32) (qt_most : Int32) (qt_from : Int32) (qt_kind : Int32) (qt_place : Int32) (qt_value : Int32) (qt_code : Int64) (qt_key : Int32) (qt_fault : Int32) (qt_faultPlace : Int32) (hi_qt_size : 0 ≤ qt_size.toInt ∧ qt_size.toInt ≤ 940) : Ci l yX9_fail cX9_fail 2 (some .boolean) 0 0 0 G [.ref qt, .int a1] [(qt, .inr (8, [.ref qt_keyCodes, .ref qt_bytes, .int qt_size, .int qt_most, .int qt_from, .int qt_kind, .int qt_place, .int qt_value, .long qt_code, .int qt_key, .int qt_fault, .int qt_faultPlace]))] (fun (r9 : Int32) (u9 : va_W) => ∃ (x0_qt_fault : Int32) (x1_qt_faultPlace : Int32), r9 = 0 ∧ u9 = [(qt, .inr (8, [.ref qt_keyCodes, .ref qt_bytes, .int qt_size, .int qt_most, .int qt_from, .int qt_kind, .int qt_place, .int qt_value, .long qt_code, .int qt_key, .int x0_qt_fault, .int x1_qt_faultPlace]))]) := by
  refine Ci.ofQ (by decide) (Nat.le_of_ble_eq_true rfl) ?_
  intro p e s m below meth c ls A args Q hQ B hw hl
  have C : CallFix p m c cX9_fail 2 s args gw "LanternState$Tape" := B.1
  have hl : lv_has ls 2 [(0, .ref qt), (1, .int a1)] := hl
  refine lv_aload_n C.1 C.2.1 dX9_fail_0 rfl (lv_at hl 0 rfl) ?_
  refine x_get C hw iwX9 8 rfl 0 rfl 10 (by decide) kw110 rfl dX9_fail_1 ?_
  refine lv_if_ne (tgt := 20) C.1 C.2.1 dX9_fail_4 (by decide) (fun c1 => ?_) (fun c1 => ?_)
  · skip
    have c1 : qt_fault.toInt ≠ 0 := i_eqF (X := qt_fault.toInt) (Y := 0) rfl rfl c1
    have bc1_qt_fault := i_bd qt_fault
    refine lv_iconst (v := 0) C.1 C.2.1 dX9_fail_20 (by decide) ?_
    exact x_retzQ hQ B hw rfl ⟨qt_fault, qt_faultPlace, rfl, rfl⟩ (Nat.le_of_ble_eq_true rfl) (Nat.le_of_ble_eq_true rfl) dX9_fail_21
  · skip
    have c1 : qt_fault.toInt = 0 := i_eqT (X := qt_fault.toInt) (Y := 0) rfl rfl c1
    have bc1_qt_fault := i_bd qt_fault
    refine lv_aload_n C.1 C.2.1 dX9_fail_7 rfl (lv_at hl 0 rfl) ?_
    refine lv_iload_n C.1 C.2.1 dX9_fail_8 rfl (lv_at hl 1 rfl) ?_
    refine x_put (w' := [(qt, .inr (8, [.ref qt_keyCodes, .ref qt_bytes, .int qt_size, .int qt_most, .int qt_from, .int qt_kind, .int qt_place, .int qt_value, .long qt_code, .int qt_key, .int a1, .int qt_faultPlace]))]) C hw iwX9 tyX9_ok nmX9 8 rfl 0 rfl 10 (by decide) kw110 rfl rfl rfl (Nat.le_of_ble_eq_true rfl) rfl dX9_fail_9 (fun H locs hw => ?_)
    refine lv_aload_n C.1 C.2.1 dX9_fail_12 rfl (lv_at hl 0 rfl) ?_
    refine lv_aload_n C.1 C.2.1 dX9_fail_13 rfl (lv_at hl 0 rfl) ?_
    refine x_get C hw iwX9 8 rfl 0 rfl 6 (by decide) kw98 rfl dX9_fail_14 ?_
    refine x_put (w' := [(qt, .inr (8, [.ref qt_keyCodes, .ref qt_bytes, .int qt_size, .int qt_most, .int qt_from, .int qt_kind, .int qt_place, .int qt_value, .long qt_code, .int qt_key, .int a1, .int qt_place]))]) C hw iwX9 tyX9_ok nmX9 8 rfl 0 rfl 11 (by decide) kw113 rfl rfl rfl (Nat.le_of_ble_eq_true rfl) rfl dX9_fail_17 (fun H locs hw => ?_)
    refine lv_iconst (v := 0) C.1 C.2.1 dX9_fail_20 (by decide) ?_
    exact x_retzQ hQ B hw rfl ⟨a1, qt_place, rfl, rfl⟩ (Nat.le_of_ble_eq_true rfl) (Nat.le_of_ble_eq_true rfl) dX9_fail_21
theorem dX9_readRun_0 : decode cX9_readRun 0 = .ok (.iconst 0, 1) := by decide +kernel
theorem dX9_readRun_1 : decode cX9_readRun 1 = .ok (.istore_n 1, 1) := by decide +kernel
theorem dX9_readRun_2 : decode cX9_readRun 2 = .ok (.iconst 0, 1) := by decide +kernel
theorem dX9_readRun_3 : decode cX9_readRun 3 = .ok (.istore_n 2, 1) := by decide +kernel
theorem dX9_readRun_4 : decode cX9_readRun 4 = .ok (.iconst 1, 1) := by decide +kernel
theorem dX9_readRun_5 : decode cX9_readRun 5 = .ok (.istore_n 3, 1) := by decide +kernel
theorem dX9_readRun_6 : decode cX9_readRun 6 = .ok (.iload_n 3, 1) := by decide +kernel
theorem dX9_readRun_7 : decode cX9_readRun 7 = .ok (.ifCond .eq 127, 3) := by decide +kernel
theorem dX9_readRun_10 : decode cX9_readRun 10 = .ok (.aload_n 0, 1) := by decide +kernel
theorem dX9_readRun_11 : decode cX9_readRun 11 = .ok (.getfield 50, 3) := by decide +kernel
theorem dX9_readRun_14 : decode cX9_readRun 14 = .ok (.aload_n 0, 1) := by decide +kernel
theorem dX9_readRun_15 : decode cX9_readRun 15 = .ok (.getfield 33, 3) := by decide +kernel
theorem dX9_readRun_18 : decode cX9_readRun 18 = .ok (.if_icmp .ge 116, 3) := by decide +kernel
theorem dX9_readRun_21 : decode cX9_readRun 21 = .ok (.aload_n 0, 1) := by decide +kernel
theorem dX9_readRun_22 : decode cX9_readRun 22 = .ok (.aload_n 0, 1) := by decide +kernel
theorem dX9_readRun_23 : decode cX9_readRun 23 = .ok (.getfield 50, 3) := by decide +kernel
theorem dX9_readRun_26 : decode cX9_readRun 26 = .ok (.invokevirtual 37, 3) := by decide +kernel
theorem mwX9_at : MwV yX9_at cX9_at 2 (some .int) 1 := ⟨⟨kw533, kw2, by decide +kernel⟩, kw532, kS1⟩
theorem dX9_readRun_29 : decode cX9_readRun 29 = .ok (.istore 4, 2) := by decide +kernel
theorem dX9_readRun_31 : decode cX9_readRun 31 = .ok (.iload 4, 2) := by decide +kernel
theorem dX9_readRun_33 : decode cX9_readRun 33 = .ok (.bipush 97, 2) := by decide +kernel
theorem dX9_readRun_35 : decode cX9_readRun 35 = .ok (.if_icmp .lt 47, 3) := by decide +kernel
theorem dX9_readRun_82 : decode cX9_readRun 82 = .ok (.iload 4, 2) := by decide +kernel
theorem dX9_readRun_84 : decode cX9_readRun 84 = .ok (.bipush 48, 2) := by decide +kernel
theorem dX9_readRun_86 : decode cX9_readRun 86 = .ok (.if_icmp .lt 43, 3) := by decide +kernel
theorem dX9_readRun_129 : decode cX9_readRun 129 = .ok (.iconst 0, 1) := by decide +kernel
theorem dX9_readRun_130 : decode cX9_readRun 130 = .ok (.istore_n 3, 1) := by decide +kernel
theorem dX9_readRun_89 : decode cX9_readRun 89 = .ok (.iload 4, 2) := by decide +kernel
theorem dX9_readRun_91 : decode cX9_readRun 91 = .ok (.bipush 57, 2) := by decide +kernel
theorem dX9_readRun_93 : decode cX9_readRun 93 = .ok (.if_icmp .gt 36, 3) := by decide +kernel
theorem dX9_readRun_96 : decode cX9_readRun 96 = .ok (.iinc 2 1, 3) := by decide +kernel
theorem dX9_readRun_99 : decode cX9_readRun 99 = .ok (.aload_n 0, 1) := by decide +kernel
theorem dX9_readRun_100 : decode cX9_readRun 100 = .ok (.aload_n 0, 1) := by decide +kernel
theorem dX9_readRun_101 : decode cX9_readRun 101 = .ok (.getfield 62, 3) := by decide +kernel
theorem dX9_readRun_104 : decode cX9_readRun 104 = .ok (.bipush 10, 2) := by decide +kernel
theorem dX9_readRun_106 : decode cX9_readRun 106 = .ok (.imul, 1) := by decide +kernel
theorem dX9_readRun_107 : decode cX9_readRun 107 = .ok (.iload 4, 2) := by decide +kernel
theorem dX9_readRun_109 : decode cX9_readRun 109 = .ok (.bipush 48, 2) := by decide +kernel
theorem dX9_readRun_111 : decode cX9_readRun 111 = .ok (.isub, 1) := by decide +kernel
theorem dX9_readRun_112 : decode cX9_readRun 112 = .ok (.iadd, 1) := by decide +kernel
theorem dX9_readRun_113 : decode cX9_readRun 113 = .ok (.putfield 62, 3) := by decide +kernel
theorem dX9_readRun_116 : decode cX9_readRun 116 = .ok (.aload_n 0, 1) := by decide +kernel
theorem dX9_readRun_117 : decode cX9_readRun 117 = .ok (.dup, 1) := by decide +kernel
theorem dX9_readRun_118 : decode cX9_readRun 118 = .ok (.getfield 50, 3) := by decide +kernel
theorem dX9_readRun_121 : decode cX9_readRun 121 = .ok (.iconst 1, 1) := by decide +kernel
theorem dX9_readRun_122 : decode cX9_readRun 122 = .ok (.iadd, 1) := by decide +kernel
theorem dX9_readRun_123 : decode cX9_readRun 123 = .ok (.putfield 50, 3) := by decide +kernel
theorem dX9_readRun_126 : decode cX9_readRun 126 = .ok (.goto 5, 3) := by decide +kernel
theorem dX9_readRun_38 : decode cX9_readRun 38 = .ok (.iload 4, 2) := by decide +kernel
theorem dX9_readRun_40 : decode cX9_readRun 40 = .ok (.bipush 122, 2) := by decide +kernel
theorem dX9_readRun_42 : decode cX9_readRun 42 = .ok (.if_icmp .gt 40, 3) := by decide +kernel
theorem dX9_readRun_45 : decode cX9_readRun 45 = .ok (.iinc 1 1, 3) := by decide +kernel
theorem dX9_readRun_48 : decode cX9_readRun 48 = .ok (.aload_n 0, 1) := by decide +kernel
theorem dX9_readRun_49 : decode cX9_readRun 49 = .ok (.aload_n 0, 1) := by decide +kernel
theorem dX9_readRun_50 : decode cX9_readRun 50 = .ok (.getfield 65, 3) := by decide +kernel
theorem dX9_readRun_53 : decode cX9_readRun 53 = .ok (.ldc2_w 31, 3) := by decide +kernel
theorem dX9_readRun_56 : decode cX9_readRun 56 = .ok (.lmul, 1) := by decide +kernel
theorem dX9_readRun_57 : decode cX9_readRun 57 = .ok (.iload 4, 2) := by decide +kernel
theorem dX9_readRun_59 : decode cX9_readRun 59 = .ok (.bipush 97, 2) := by decide +kernel
theorem dX9_readRun_61 : decode cX9_readRun 61 = .ok (.isub, 1) := by decide +kernel
theorem dX9_readRun_62 : decode cX9_readRun 62 = .ok (.iconst 1, 1) := by decide +kernel
theorem dX9_readRun_63 : decode cX9_readRun 63 = .ok (.iadd, 1) := by decide +kernel
theorem dX9_readRun_64 : decode cX9_readRun 64 = .ok (.i2l, 1) := by decide +kernel
theorem dX9_readRun_65 : decode cX9_readRun 65 = .ok (.ladd, 1) := by decide +kernel
theorem dX9_readRun_66 : decode cX9_readRun 66 = .ok (.putfield 65, 3) := by decide +kernel
theorem dX9_readRun_69 : decode cX9_readRun 69 = .ok (.aload_n 0, 1) := by decide +kernel
theorem dX9_readRun_70 : decode cX9_readRun 70 = .ok (.dup, 1) := by decide +kernel
theorem dX9_readRun_71 : decode cX9_readRun 71 = .ok (.getfield 50, 3) := by decide +kernel
theorem dX9_readRun_74 : decode cX9_readRun 74 = .ok (.iconst 1, 1) := by decide +kernel
theorem dX9_readRun_75 : decode cX9_readRun 75 = .ok (.iadd, 1) := by decide +kernel
theorem dX9_readRun_76 : decode cX9_readRun 76 = .ok (.putfield 50, 3) := by decide +kernel
theorem dX9_readRun_79 : decode cX9_readRun 79 = .ok (.goto 52, 3) := by decide +kernel
theorem dX9_readRun_131 : decode cX9_readRun 131 = .ok (.goto (-125), 3) := by decide +kernel
theorem dX9_readRun_134 : decode cX9_readRun 134 = .ok (.iload_n 2, 1) := by decide +kernel
theorem dX9_readRun_135 : decode cX9_readRun 135 = .ok (.ifCond .ne 59, 3) := by decide +kernel
theorem dX9_readRun_194 : decode cX9_readRun 194 = .ok (.aload_n 0, 1) := by decide +kernel
theorem dX9_readRun_195 : decode cX9_readRun 195 = .ok (.iload_n 1, 1) := by decide +kernel
theorem dX9_readRun_196 : decode cX9_readRun 196 = .ok (.ifCond .ne 12, 3) := by decide +kernel
theorem dX9_readRun_208 : decode cX9_readRun 208 = .ok (.iconst 1, 1) := by decide +kernel
theorem dX9_readRun_209 : decode cX9_readRun 209 = .ok (.putfield 72, 3) := by decide +kernel
theorem dX9_readRun_212 : decode cX9_readRun 212 = .ok (.return_, 1) := by decide +kernel
theorem dX9_readRun_199 : decode cX9_readRun 199 = .ok (.iload_n 2, 1) := by decide +kernel
theorem dX9_readRun_200 : decode cX9_readRun 200 = .ok (.iconst 3, 1) := by decide +kernel
theorem dX9_readRun_201 : decode cX9_readRun 201 = .ok (.if_icmp .gt 7, 3) := by decide +kernel
theorem dX9_readRun_204 : decode cX9_readRun 204 = .ok (.iconst 4, 1) := by decide +kernel
theorem dX9_readRun_205 : decode cX9_readRun 205 = .ok (.goto 4, 3) := by decide +kernel
theorem dX9_readRun_138 : decode cX9_readRun 138 = .ok (.iload_n 1, 1) := by decide +kernel
theorem dX9_readRun_139 : decode cX9_readRun 139 = .ok (.bipush 7, 2) := by decide +kernel
theorem dX9_readRun_141 : decode cX9_readRun 141 = .ok (.if_icmp .gt 53, 3) := by decide +kernel
theorem dX9_readRun_144 : decode cX9_readRun 144 = .ok (.aload_n 0, 1) := by decide +kernel
theorem dX9_readRun_145 : decode cX9_readRun 145 = .ok (.iconst 2, 1) := by decide +kernel
theorem dX9_readRun_146 : decode cX9_readRun 146 = .ok (.putfield 72, 3) := by decide +kernel
theorem dX9_readRun_149 : decode cX9_readRun 149 = .ok (.iconst 0, 1) := by decide +kernel
theorem dX9_readRun_150 : decode cX9_readRun 150 = .ok (.istore 4, 2) := by decide +kernel
theorem dX9_readRun_152 : decode cX9_readRun 152 = .ok (.iload 4, 2) := by decide +kernel
theorem dX9_readRun_154 : decode cX9_readRun 154 = .ok (.bipush 27, 2) := by decide +kernel
theorem dX9_readRun_156 : decode cX9_readRun 156 = .ok (.if_icmp .ge 35, 3) := by decide +kernel
theorem dX9_readRun_159 : decode cX9_readRun 159 = .ok (.aload_n 0, 1) := by decide +kernel
theorem dX9_readRun_160 : decode cX9_readRun 160 = .ok (.getfield 9, 3) := by decide +kernel
theorem dX9_readRun_163 : decode cX9_readRun 163 = .ok (.iload 4, 2) := by decide +kernel
theorem dX9_readRun_165 : decode cX9_readRun 165 = .ok (.laload, 1) := by decide +kernel
theorem dX9_readRun_166 : decode cX9_readRun 166 = .ok (.aload_n 0, 1) := by decide +kernel
theorem dX9_readRun_167 : decode cX9_readRun 167 = .ok (.getfield 65, 3) := by decide +kernel
theorem dX9_readRun_170 : decode cX9_readRun 170 = .ok (.lcmp, 1) := by decide +kernel
theorem dX9_readRun_171 : decode cX9_readRun 171 = .ok (.ifCond .ne 14, 3) := by decide +kernel
theorem dX9_readRun_174 : decode cX9_readRun 174 = .ok (.aload_n 0, 1) := by decide +kernel
theorem dX9_readRun_175 : decode cX9_readRun 175 = .ok (.iconst 3, 1) := by decide +kernel
theorem dX9_readRun_176 : decode cX9_readRun 176 = .ok (.putfield 72, 3) := by decide +kernel
theorem dX9_readRun_179 : decode cX9_readRun 179 = .ok (.aload_n 0, 1) := by decide +kernel
theorem dX9_readRun_180 : decode cX9_readRun 180 = .ok (.iload 4, 2) := by decide +kernel
theorem dX9_readRun_182 : decode cX9_readRun 182 = .ok (.putfield 69, 3) := by decide +kernel
theorem dX9_readRun_185 : decode cX9_readRun 185 = .ok (.iinc 4 1, 3) := by decide +kernel
theorem dX9_readRun_188 : decode cX9_readRun 188 = .ok (.goto (-36), 3) := by decide +kernel
theorem dX9_readRun_191 : decode cX9_readRun 191 = .ok (.goto 21, 3) := by decide +kernel
set_option maxHeartbeats 4000000 in
set_option maxRecDepth 100000 in
theorem s_X9_readRun {l : Launch} {G : Gc} (qt : Nat) (qt_keyCodes : Nat) (qt_bytes : Nat) (qt_size : Int32) (qt_most : Int32) (qt_from : Int32) (qt_kind : Int32) (qt_place : Int32) (qt_value : Int32) (qt_code : Int64) (qt_key : Int32) (qt_fault : Int32) (qt_faultPlace : Int32) (qt_keyCodes_c : Nat → Int64) (qt_bytes_c : Nat → Int32) (hi_qt_size : 0 ≤ qt_size.toInt ∧ qt_size.toInt ≤ 940) : Cv l yX9_readRun cX9_readRun 5 1 0 0 G [.ref qt] [(qt, .inr (8, [.ref qt_keyCodes, .ref qt_bytes, .int qt_size, .int qt_most, .int qt_from, .int qt_kind, .int qt_place, .int qt_value, .long qt_code, .int qt_key, .int qt_fault, .int qt_faultPlace])), (qt_keyCodes, eJ G 27 qt_keyCodes_c), (qt_bytes, eB G 940 qt_bytes_c)] (fun (u9 : va_W) => ∃ (x0_qt_from : Int32) (x1_qt_kind : Int32) (x2_qt_value : Int32) (x3_qt_code : Int64) (x4_qt_key : Int32), u9 = [(qt, .inr (8, [.ref qt_keyCodes, .ref qt_bytes, .int qt_size, .int qt_most, .int x0_qt_from, .int x1_qt_kind, .int qt_place, .int x2_qt_value, .long x3_qt_code, .int x4_qt_key, .int qt_fault, .int qt_faultPlace])), (qt_keyCodes, eJ G 27 qt_keyCodes_c), (qt_bytes, eB G 940 qt_bytes_c)] ∧ (1 ≤ x1_qt_kind.toInt ∧ x1_qt_kind.toInt ≤ 4)) := by
  refine Cv.ofQ (by decide) (Nat.le_of_ble_eq_true rfl) ?_
  intro p e s m below meth c ls A args Q hQ B hw hl
  have C : CallFix p m c cX9_readRun 5 s args gw "LanternState$Tape" := B.1
  have hl : lv_has ls 5 [(0, .ref qt)] := hl
  refine lv_iconst (v := 0) C.1 C.2.1 dX9_readRun_0 (by decide) ?_
  refine lv_istore_n (lv' := [(1, .int 0), (0, .ref qt)]) C.1 C.2.1 dX9_readRun_1 rfl hl (by decide) rfl (fun ls hl => ?_)
  refine lv_iconst (v := 0) C.1 C.2.1 dX9_readRun_2 (by decide) ?_
  refine lv_istore_n (lv' := [(2, .int 0), (1, .int 0), (0, .ref qt)]) C.1 C.2.1 dX9_readRun_3 rfl hl (by decide) rfl (fun ls hl => ?_)
  refine lv_iconst (v := 1) C.1 C.2.1 dX9_readRun_4 (by decide) ?_
  refine lv_istore_n (lv' := [(3, .int 1), (2, .int 0), (1, .int 0), (0, .ref qt)]) C.1 C.2.1 dX9_readRun_5 rfl hl (by decide) rfl (fun ls hl => ?_)
  have J189 : ∀ (j184 : Int32) (j185 : Int32) (j186 : Int32) (j187 : Int32) (j188 : Int64), ∀ (H : Heap) (locs : List Loc) (ls : Array Slot), Wd G s A [(qt, .inr (8, [.ref qt_keyCodes, .ref qt_bytes, .int qt_size, .int qt_most, .int j186, .int qt_kind, .int qt_place, .int j187, .long j188, .int qt_key, .int qt_fault, .int qt_faultPlace])), (qt_keyCodes, eJ G 27 qt_keyCodes_c), (qt_bytes, eB G 940 qt_bytes_c)] H locs → lv_has ls 5 [(2, .int j184), (1, .int j185), (0, .ref qt)] → W p l e (rmD 1 0 0) s m args below meth c H locs 0 0 Q (F0 m 134 ls []) := by
    intro j184 j185 j186 j187 j188  H locs ls hw hl
    refine lv_iload_n C.1 C.2.1 dX9_readRun_134 rfl (lv_at hl 0 rfl) ?_
    refine lv_if_ne (tgt := 194) C.1 C.2.1 dX9_readRun_135 (by decide) (fun c190 => ?_) (fun c190 => ?_)
    · skip
      have c190 : j184.toInt ≠ 0 := i_eqF (X := j184.toInt) (Y := 0) rfl rfl c190
      have bc190_j184 := i_bd j184
      refine lv_aload_n C.1 C.2.1 dX9_readRun_194 rfl (lv_at hl 2 rfl) ?_
      refine lv_iload_n C.1 C.2.1 dX9_readRun_195 rfl (lv_at hl 1 rfl) ?_
      refine lv_if_ne (tgt := 208) C.1 C.2.1 dX9_readRun_196 (by decide) (fun c191 => ?_) (fun c191 => ?_)
      · skip
        have c191 : j185.toInt ≠ 0 := i_eqF (X := j185.toInt) (Y := 0) rfl rfl c191
        have bc191_j185 := i_bd j185
        refine lv_iconst (v := 1) C.1 C.2.1 dX9_readRun_208 (by decide) ?_
        refine x_put (w' := [(qt, .inr (8, [.ref qt_keyCodes, .ref qt_bytes, .int qt_size, .int qt_most, .int j186, .int 1, .int qt_place, .int j187, .long j188, .int qt_key, .int qt_fault, .int qt_faultPlace])), (qt_keyCodes, eJ G 27 qt_keyCodes_c), (qt_bytes, eB G 940 qt_bytes_c)]) C hw iwX9 tyX9_ok nmX9 8 rfl 0 rfl 5 (by decide) kw97 rfl rfl rfl (Nat.le_of_ble_eq_true rfl) rfl dX9_readRun_209 (fun H locs hw => ?_)
        exact x_retvQ hQ B hw ⟨j186, 1, j187, j188, qt_key, rfl, (by decide)⟩ (Nat.le_of_ble_eq_true rfl) (Nat.le_of_ble_eq_true rfl) dX9_readRun_212
      · skip
        have c191 : j185.toInt = 0 := i_eqT (X := j185.toInt) (Y := 0) rfl rfl c191
        have bc191_j185 := i_bd j185
        refine lv_iload_n C.1 C.2.1 dX9_readRun_199 rfl (lv_at hl 0 rfl) ?_
        refine lv_iconst (v := 3) C.1 C.2.1 dX9_readRun_200 (by decide) ?_
        refine lv_icmp_gt (tgt := 208) C.1 C.2.1 dX9_readRun_201 (by decide) (fun c192 => ?_) (fun c192 => ?_)
        · skip
          have c192 : 3 < j184.toInt := i_ltT (X := 3) (Y := j184.toInt) rfl rfl c192
          have bc192_j184 := i_bd j184
          refine lv_iconst (v := 1) C.1 C.2.1 dX9_readRun_208 (by decide) ?_
          refine x_put (w' := [(qt, .inr (8, [.ref qt_keyCodes, .ref qt_bytes, .int qt_size, .int qt_most, .int j186, .int 1, .int qt_place, .int j187, .long j188, .int qt_key, .int qt_fault, .int qt_faultPlace])), (qt_keyCodes, eJ G 27 qt_keyCodes_c), (qt_bytes, eB G 940 qt_bytes_c)]) C hw iwX9 tyX9_ok nmX9 8 rfl 0 rfl 5 (by decide) kw97 rfl rfl rfl (Nat.le_of_ble_eq_true rfl) rfl dX9_readRun_209 (fun H locs hw => ?_)
          exact x_retvQ hQ B hw ⟨j186, 1, j187, j188, qt_key, rfl, (by decide)⟩ (Nat.le_of_ble_eq_true rfl) (Nat.le_of_ble_eq_true rfl) dX9_readRun_212
        · skip
          have c192 : j184.toInt ≤ 3 := i_ltF (X := 3) (Y := j184.toInt) rfl rfl c192
          have bc192_j184 := i_bd j184
          refine lv_iconst (v := 4) C.1 C.2.1 dX9_readRun_204 (by decide) ?_
          refine lv_goto (tgt := 209) C.1 C.2.1 dX9_readRun_205 (by decide) ?_
          refine x_put (w' := [(qt, .inr (8, [.ref qt_keyCodes, .ref qt_bytes, .int qt_size, .int qt_most, .int j186, .int 4, .int qt_place, .int j187, .long j188, .int qt_key, .int qt_fault, .int qt_faultPlace])), (qt_keyCodes, eJ G 27 qt_keyCodes_c), (qt_bytes, eB G 940 qt_bytes_c)]) C hw iwX9 tyX9_ok nmX9 8 rfl 0 rfl 5 (by decide) kw97 rfl rfl rfl (Nat.le_of_ble_eq_true rfl) rfl dX9_readRun_209 (fun H locs hw => ?_)
          exact x_retvQ hQ B hw ⟨j186, 4, j187, j188, qt_key, rfl, (by decide)⟩ (Nat.le_of_ble_eq_true rfl) (Nat.le_of_ble_eq_true rfl) dX9_readRun_212
    · skip
      have c190 : j184.toInt = 0 := i_eqT (X := j184.toInt) (Y := 0) rfl rfl c190
      have bc190_j184 := i_bd j184
      refine lv_iload_n C.1 C.2.1 dX9_readRun_138 rfl (lv_at hl 1 rfl) ?_
      refine lv_bipush (v := 7) C.1 C.2.1 dX9_readRun_139 (by decide) ?_
      refine lv_icmp_gt (tgt := 194) C.1 C.2.1 dX9_readRun_141 (by decide) (fun c193 => ?_) (fun c193 => ?_)
      · skip
        have c193 : 7 < j185.toInt := i_ltT (X := 7) (Y := j185.toInt) rfl rfl c193
        have bc193_j185 := i_bd j185
        refine lv_aload_n C.1 C.2.1 dX9_readRun_194 rfl (lv_at hl 2 rfl) ?_
        refine lv_iload_n C.1 C.2.1 dX9_readRun_195 rfl (lv_at hl 1 rfl) ?_
        refine lv_if_ne (tgt := 208) C.1 C.2.1 dX9_readRun_196 (by decide) (fun c194 => ?_) (fun c194 => ?_)
        · skip
          have c194 : j185.toInt ≠ 0 := i_eqF (X := j185.toInt) (Y := 0) rfl rfl c194
          have bc194_j185 := i_bd j185
          refine lv_iconst (v := 1) C.1 C.2.1 dX9_readRun_208 (by decide) ?_
          refine x_put (w' := [(qt, .inr (8, [.ref qt_keyCodes, .ref qt_bytes, .int qt_size, .int qt_most, .int j186, .int 1, .int qt_place, .int j187, .long j188, .int qt_key, .int qt_fault, .int qt_faultPlace])), (qt_keyCodes, eJ G 27 qt_keyCodes_c), (qt_bytes, eB G 940 qt_bytes_c)]) C hw iwX9 tyX9_ok nmX9 8 rfl 0 rfl 5 (by decide) kw97 rfl rfl rfl (Nat.le_of_ble_eq_true rfl) rfl dX9_readRun_209 (fun H locs hw => ?_)
          exact x_retvQ hQ B hw ⟨j186, 1, j187, j188, qt_key, rfl, (by decide)⟩ (Nat.le_of_ble_eq_true rfl) (Nat.le_of_ble_eq_true rfl) dX9_readRun_212
        · skip
          have c194 : j185.toInt = 0 := i_eqT (X := j185.toInt) (Y := 0) rfl rfl c194
          have bc194_j185 := i_bd j185
          exfalso; omega
      · skip
        have c193 : j185.toInt ≤ 7 := i_ltF (X := 7) (Y := j185.toInt) rfl rfl c193
        have bc193_j185 := i_bd j185
        refine lv_aload_n C.1 C.2.1 dX9_readRun_144 rfl (lv_at hl 2 rfl) ?_
        refine lv_iconst (v := 2) C.1 C.2.1 dX9_readRun_145 (by decide) ?_
        refine x_put (w' := [(qt, .inr (8, [.ref qt_keyCodes, .ref qt_bytes, .int qt_size, .int qt_most, .int j186, .int 2, .int qt_place, .int j187, .long j188, .int qt_key, .int qt_fault, .int qt_faultPlace])), (qt_keyCodes, eJ G 27 qt_keyCodes_c), (qt_bytes, eB G 940 qt_bytes_c)]) C hw iwX9 tyX9_ok nmX9 8 rfl 0 rfl 5 (by decide) kw97 rfl rfl rfl (Nat.le_of_ble_eq_true rfl) rfl dX9_readRun_146 (fun H locs hw => ?_)
        refine lv_iconst (v := 0) C.1 C.2.1 dX9_readRun_149 (by decide) ?_
        refine lv_istore (lv' := [(4, .int 0), (2, .int j184), (1, .int j185), (0, .ref qt)]) C.1 C.2.1 dX9_readRun_150 hl (by decide) rfl (fun ls hl => ?_)
        have loopJ245 : ∀ (n9 : Nat) (j242 : Int32) (j243 : Int32) (j244 : Int32), (2147483647 - j242.toInt).toNat < n9 → (0 ≤ j242.toInt ∧ j242.toInt ≤ 27) → (2 ≤ j243.toInt ∧ j243.toInt ≤ 3) → ∀ (H : Heap) (locs : List Loc) (ls : Array Slot), Wd G s A [(qt, .inr (8, [.ref qt_keyCodes, .ref qt_bytes, .int qt_size, .int qt_most, .int j186, .int j243, .int qt_place, .int j187, .long j188, .int j244, .int qt_fault, .int qt_faultPlace])), (qt_keyCodes, eJ G 27 qt_keyCodes_c), (qt_bytes, eB G 940 qt_bytes_c)] H locs → lv_has ls 5 [(4, .int j242), (0, .ref qt)] → W p l e (rmD 1 0 0) s m args below meth c H locs 0 0 Q (F0 m 152 ls []) := by
          intro n9
          induction n9 with
          | zero => intro j242 j243 j244 h9; exact absurd h9 (Nat.not_lt_zero _)
          | succ n9 ihJ245 =>
            intro j242 j243 j244 h9J245 hJ245_0 hJ245_1 H locs ls hw hl
            have hbj242 := i_bd j242
            refine lv_iload C.1 C.2.1 dX9_readRun_152 (lv_at hl 0 rfl) ?_
            refine lv_bipush (v := 27) C.1 C.2.1 dX9_readRun_154 (by decide) ?_
            refine lv_icmp_ge (tgt := 191) C.1 C.2.1 dX9_readRun_156 (by decide) (fun c254 => ?_) (fun c254 => ?_)
            · skip
              have c254 : 27 ≤ j242.toInt := i_leT (X := 27) (Y := j242.toInt) rfl rfl c254
              refine lv_goto (tgt := 212) C.1 C.2.1 dX9_readRun_191 (by decide) ?_
              exact x_retvQ hQ B hw ⟨j186, j243, j187, j188, j244, rfl, (by omega)⟩ (Nat.le_of_ble_eq_true rfl) (Nat.le_of_ble_eq_true rfl) dX9_readRun_212
            · skip
              have c254 : j242.toInt < 27 := i_leF (X := 27) (Y := j242.toInt) rfl rfl c254
              refine lv_aload_n C.1 C.2.1 dX9_readRun_159 rfl (lv_at hl 1 rfl) ?_
              refine x_get C hw iwX9 8 rfl 0 rfl 0 (by decide) kw88 rfl dX9_readRun_160 ?_
              refine lv_iload C.1 C.2.1 dX9_readRun_163 (lv_at hl 0 rfl) ?_
              refine x_lald (v := (qt_keyCodes_c j242.toNatClampNeg)) C hw 1 rfl (i_in (by omega) (by omega)) rfl dX9_readRun_165 (x_genl (fun v255 => ?_))
              refine lv_aload_n C.1 C.2.1 dX9_readRun_166 rfl (lv_at hl 1 rfl) ?_
              refine x_get C hw iwX9 8 rfl 0 rfl 8 (by decide) kw105 rfl dX9_readRun_167 ?_
              refine W.lcmp C.1 C.2.1 dX9_readRun_170 (x_gen (fun v256 => ?_))
              have J260 : ∀ (j258 : Int32) (j259 : Int32), (2 ≤ j258.toInt ∧ j258.toInt ≤ 3) → ∀ (H : Heap) (locs : List Loc) (ls : Array Slot), Wd G s A [(qt, .inr (8, [.ref qt_keyCodes, .ref qt_bytes, .int qt_size, .int qt_most, .int j186, .int j258, .int qt_place, .int j187, .long j188, .int j259, .int qt_fault, .int qt_faultPlace])), (qt_keyCodes, eJ G 27 qt_keyCodes_c), (qt_bytes, eB G 940 qt_bytes_c)] H locs → lv_has ls 5 [(4, .int j242), (0, .ref qt)] → W p l e (rmD 1 0 0) s m args below meth c H locs 0 0 Q (F0 m 185 ls []) := by
                intro j258 j259 hJ260_0 H locs ls hw hl
                obtain ⟨v261, ev261⟩ : ∃ z : Int32, j242 + 1 = z := ⟨_, rfl⟩
                have hv261 : v261.toInt = j242.toInt + 1 := by rw [← ev261]; exact i_add rfl rfl (by omega) (by omega)
                refine lv_iinc (v := v261) (lv' := [(4, .int v261), (0, .ref qt)]) C.1 C.2.1 dX9_readRun_185 hl (k := 0) rfl ev261 (by decide) rfl (fun ls hl => ?_)
                refine lv_goto (tgt := 152) C.1 C.2.1 dX9_readRun_188 (by decide) ?_
                exact ihJ245 v261 j258 j259 (by omega) (by omega) (by omega) _ _ _ hw (lv_sub hl [0, 1] rfl)
              refine lv_if_ne (tgt := 185) C.1 C.2.1 dX9_readRun_171 (by decide) (fun c257 => ?_) (fun c257 => ?_)
              · skip
                have c257 : v256.toInt ≠ 0 := i_eqF (X := v256.toInt) (Y := 0) rfl rfl c257
                have bc257_v256 := i_bd v256
                exact J260 j243 j244  (by omega) _ _ _ hw (lv_sub hl [0, 1] rfl)
              · skip
                have c257 : v256.toInt = 0 := i_eqT (X := v256.toInt) (Y := 0) rfl rfl c257
                have bc257_v256 := i_bd v256
                refine lv_aload_n C.1 C.2.1 dX9_readRun_174 rfl (lv_at hl 1 rfl) ?_
                refine lv_iconst (v := 3) C.1 C.2.1 dX9_readRun_175 (by decide) ?_
                refine x_put (w' := [(qt, .inr (8, [.ref qt_keyCodes, .ref qt_bytes, .int qt_size, .int qt_most, .int j186, .int 3, .int qt_place, .int j187, .long j188, .int j244, .int qt_fault, .int qt_faultPlace])), (qt_keyCodes, eJ G 27 qt_keyCodes_c), (qt_bytes, eB G 940 qt_bytes_c)]) C hw iwX9 tyX9_ok nmX9 8 rfl 0 rfl 5 (by decide) kw97 rfl rfl rfl (Nat.le_of_ble_eq_true rfl) rfl dX9_readRun_176 (fun H locs hw => ?_)
                refine lv_aload_n C.1 C.2.1 dX9_readRun_179 rfl (lv_at hl 1 rfl) ?_
                refine lv_iload C.1 C.2.1 dX9_readRun_180 (lv_at hl 0 rfl) ?_
                refine x_put (w' := [(qt, .inr (8, [.ref qt_keyCodes, .ref qt_bytes, .int qt_size, .int qt_most, .int j186, .int 3, .int qt_place, .int j187, .long j188, .int j242, .int qt_fault, .int qt_faultPlace])), (qt_keyCodes, eJ G 27 qt_keyCodes_c), (qt_bytes, eB G 940 qt_bytes_c)]) C hw iwX9 tyX9_ok nmX9 8 rfl 0 rfl 9 (by decide) kw109 rfl rfl rfl (Nat.le_of_ble_eq_true rfl) rfl dX9_readRun_182 (fun H locs hw => ?_)
                exact J260 3 j242  (by decide) _ _ _ hw (lv_sub hl [0, 1] rfl)
        exact loopJ245 _ 0 2 qt_key (Nat.lt_succ_self _) (by decide) (by decide) _ _ _ hw (lv_sub hl [0, 3] rfl)
  have loopJ146 : ∀ (n9 : Nat) (j140 : Int32) (j141 : Int32) (j142 : Int32) (j143 : Int32) (j144 : Int32) (j145 : Int64), (2 * (2147483647 - j143.toInt) + j140.toInt).toNat < n9 → (0 ≤ j140.toInt ∧ j140.toInt ≤ 1) → ∀ (H : Heap) (locs : List Loc) (ls : Array Slot), Wd G s A [(qt, .inr (8, [.ref qt_keyCodes, .ref qt_bytes, .int qt_size, .int qt_most, .int j143, .int qt_kind, .int qt_place, .int j144, .long j145, .int qt_key, .int qt_fault, .int qt_faultPlace])), (qt_keyCodes, eJ G 27 qt_keyCodes_c), (qt_bytes, eB G 940 qt_bytes_c)] H locs → lv_has ls 5 [(3, .int j140), (2, .int j141), (1, .int j142), (0, .ref qt)] → W p l e (rmD 1 0 0) s m args below meth c H locs 0 0 Q (F0 m 6 ls []) := by
    intro n9
    induction n9 with
    | zero => intro j140 j141 j142 j143 j144 j145 h9; exact absurd h9 (Nat.not_lt_zero _)
    | succ n9 ihJ146 =>
      intro j140 j141 j142 j143 j144 j145 h9J146 hJ146_0 H locs ls hw hl
      have hbj143 := i_bd j143
      refine lv_iload_n C.1 C.2.1 dX9_readRun_6 rfl (lv_at hl 0 rfl) ?_
      refine lv_if_eq (tgt := 134) C.1 C.2.1 dX9_readRun_7 (by decide) (fun c262 => ?_) (fun c262 => ?_)
      · skip
        have c262 : j140.toInt = 0 := i_eqT (X := j140.toInt) (Y := 0) rfl rfl c262
        exact J189 j141 j142 j143 j144 j145   _ _ _ hw (lv_sub hl [1, 2, 3] rfl)
      · skip
        have c262 : j140.toInt ≠ 0 := i_eqF (X := j140.toInt) (Y := 0) rfl rfl c262
        refine lv_aload_n C.1 C.2.1 dX9_readRun_10 rfl (lv_at hl 3 rfl) ?_
        refine x_get C hw iwX9 8 rfl 0 rfl 4 (by decide) kw93 rfl dX9_readRun_11 ?_
        refine lv_aload_n C.1 C.2.1 dX9_readRun_14 rfl (lv_at hl 3 rfl) ?_
        refine x_get C hw iwX9 8 rfl 0 rfl 2 (by decide) kw91 rfl dX9_readRun_15 ?_
        refine lv_icmp_ge (tgt := 134) C.1 C.2.1 dX9_readRun_18 (by decide) (fun c263 => ?_) (fun c263 => ?_)
        · skip
          have c263 : qt_size.toInt ≤ j143.toInt := i_leT (X := qt_size.toInt) (Y := j143.toInt) rfl rfl c263
          have bc263_j143 := i_bd j143
          exact J189 j141 j142 j143 j144 j145   _ _ _ hw (lv_sub hl [1, 2, 3] rfl)
        · skip
          have c263 : j143.toInt < qt_size.toInt := i_leF (X := qt_size.toInt) (Y := j143.toInt) rfl rfl c263
          have bc263_j143 := i_bd j143
          refine lv_aload_n C.1 C.2.1 dX9_readRun_21 rfl (lv_at hl 3 rfl) ?_
          refine lv_aload_n C.1 C.2.1 dX9_readRun_22 rfl (lv_at hl 3 rfl) ?_
          refine x_get C hw iwX9 8 rfl 0 rfl 4 (by decide) kw93 rfl dX9_readRun_23 ?_
          refine x_calliV (As := [.int j143]) (rest := []) (wr := [(qt_keyCodes, eJ G 27 qt_keyCodes_c)]) C hw (s_X9_at qt j143 qt_keyCodes qt_bytes qt_size qt_most j143 qt_kind qt_place j144 j145 qt_key qt_fault qt_faultPlace qt_bytes_c (by omega)) mwX9_at kw530 [0, 2] [1] rfl rfl rfl rfl (by decide) 0 rfl rfl rfl rfl hl.1 rfl (Nat.le_of_ble_eq_true rfl) ⟨(Nat.le_of_ble_eq_true rfl), (Nat.le_of_ble_eq_true rfl)⟩ ⟨(Nat.le_of_ble_eq_true rfl), (Nat.le_of_ble_eq_true rfl)⟩ dX9_readRun_26 (fun r264 u9 H locs hp9 hw => ?_)
          obtain ⟨x265, rfl, rfl, hf266⟩ := hp9
          have hw : Wd G s A [(qt_keyCodes, eJ G 27 qt_keyCodes_c), (qt, .inr (8, [.ref qt_keyCodes, .ref qt_bytes, .int qt_size, .int qt_most, .int j143, .int qt_kind, .int qt_place, .int j144, .long j145, .int qt_key, .int qt_fault, .int qt_faultPlace])), (qt_bytes, eB G 940 qt_bytes_c)] H _ := hw
          refine lv_istore (lv' := [(4, .int r264), (3, .int j140), (2, .int j141), (1, .int j142), (0, .ref qt)]) C.1 C.2.1 dX9_readRun_29 hl (by decide) rfl (fun ls hl => ?_)
          refine lv_iload C.1 C.2.1 dX9_readRun_31 (lv_at hl 0 rfl) ?_
          refine lv_bipush (v := 97) C.1 C.2.1 dX9_readRun_33 (by decide) ?_
          have J291 : ∀ (j285 : Int32) (j286 : Int32) (j287 : Int32) (j288 : Int32) (j289 : Int32) (j290 : Int64), (0 ≤ j285.toInt ∧ j285.toInt ≤ 1) → (-2147483648 ≤ j288.toInt ∧ j288.toInt ≤ 940) → (2 * j143.toInt - 1 < 2 * j288.toInt - j285.toInt) → ∀ (H : Heap) (locs : List Loc) (ls : Array Slot), Wd G s A [(qt_keyCodes, eJ G 27 qt_keyCodes_c), (qt, .inr (8, [.ref qt_keyCodes, .ref qt_bytes, .int qt_size, .int qt_most, .int j288, .int qt_kind, .int qt_place, .int j289, .long j290, .int qt_key, .int qt_fault, .int qt_faultPlace])), (qt_bytes, eB G 940 qt_bytes_c)] H locs → lv_has ls 5 [(3, .int j285), (2, .int j286), (1, .int j287), (0, .ref qt)] → W p l e (rmD 1 0 0) s m args below meth c H locs 0 0 Q (F0 m 131 ls []) := by
            intro j285 j286 j287 j288 j289 j290 hJ291_0 hJ291_1 hJ291_2 H locs ls hw hl
            refine lv_goto (tgt := 6) C.1 C.2.1 dX9_readRun_131 (by decide) ?_
            have hw := hw.sub (w' := [(qt, .inr (8, [.ref qt_keyCodes, .ref qt_bytes, .int qt_size, .int qt_most, .int j288, .int qt_kind, .int qt_place, .int j289, .long j290, .int qt_key, .int qt_fault, .int qt_faultPlace])), (qt_keyCodes, eJ G 27 qt_keyCodes_c), (qt_bytes, eB G 940 qt_bytes_c)]) [1, 0, 2] rfl rfl
            exact ihJ146 j285 j286 j287 j288 j289 j290 (by omega) (by omega) _ _ _ hw (lv_sub hl [0, 1, 2, 3] rfl)
          refine lv_icmp_lt (tgt := 82) C.1 C.2.1 dX9_readRun_35 (by decide) (fun c267 => ?_) (fun c267 => ?_)
          · skip
            have c267 : r264.toInt < 97 := i_ltT (X := r264.toInt) (Y := 97) rfl rfl c267
            refine lv_iload C.1 C.2.1 dX9_readRun_82 (lv_at hl 0 rfl) ?_
            refine lv_bipush (v := 48) C.1 C.2.1 dX9_readRun_84 (by decide) ?_
            refine lv_icmp_lt (tgt := 129) C.1 C.2.1 dX9_readRun_86 (by decide) (fun c292 => ?_) (fun c292 => ?_)
            · skip
              have c292 : r264.toInt < 48 := i_ltT (X := r264.toInt) (Y := 48) rfl rfl c292
              refine lv_iconst (v := 0) C.1 C.2.1 dX9_readRun_129 (by decide) ?_
              refine lv_istore_n (lv' := [(3, .int 0), (4, .int r264), (2, .int j141), (1, .int j142), (0, .ref qt)]) C.1 C.2.1 dX9_readRun_130 rfl hl (by decide) rfl (fun ls hl => ?_)
              exact J291 0 j141 j142 j143 j144 j145  (by decide) (by omega) (by have e0 : (0 : Int32).toInt = 0 := rfl; omega) _ _ _ hw (lv_sub hl [0, 2, 3, 4] rfl)
            · skip
              have c292 : 48 ≤ r264.toInt := i_ltF (X := r264.toInt) (Y := 48) rfl rfl c292
              refine lv_iload C.1 C.2.1 dX9_readRun_89 (lv_at hl 0 rfl) ?_
              refine lv_bipush (v := 57) C.1 C.2.1 dX9_readRun_91 (by decide) ?_
              refine lv_icmp_gt (tgt := 129) C.1 C.2.1 dX9_readRun_93 (by decide) (fun c293 => ?_) (fun c293 => ?_)
              · skip
                have c293 : 57 < r264.toInt := i_ltT (X := 57) (Y := r264.toInt) rfl rfl c293
                refine lv_iconst (v := 0) C.1 C.2.1 dX9_readRun_129 (by decide) ?_
                refine lv_istore_n (lv' := [(3, .int 0), (4, .int r264), (2, .int j141), (1, .int j142), (0, .ref qt)]) C.1 C.2.1 dX9_readRun_130 rfl hl (by decide) rfl (fun ls hl => ?_)
                exact J291 0 j141 j142 j143 j144 j145  (by decide) (by omega) (by have e0 : (0 : Int32).toInt = 0 := rfl; omega) _ _ _ hw (lv_sub hl [0, 2, 3, 4] rfl)
              · skip
                have c293 : r264.toInt ≤ 57 := i_ltF (X := 57) (Y := r264.toInt) rfl rfl c293
                obtain ⟨v294, ev294⟩ : ∃ z : Int32, j141 + 1 = z := ⟨_, rfl⟩
                refine lv_iinc (v := v294) (lv' := [(2, .int v294), (4, .int r264), (3, .int j140), (1, .int j142), (0, .ref qt)]) C.1 C.2.1 dX9_readRun_96 hl (k := 2) rfl ev294 (by decide) rfl (fun ls hl => ?_)
                refine lv_aload_n C.1 C.2.1 dX9_readRun_99 rfl (lv_at hl 4 rfl) ?_
                refine lv_aload_n C.1 C.2.1 dX9_readRun_100 rfl (lv_at hl 4 rfl) ?_
                refine x_get C hw iwX9 8 rfl 1 rfl 7 (by decide) kw101 rfl dX9_readRun_101 ?_
                refine lv_bipush (v := 10) C.1 C.2.1 dX9_readRun_104 (by decide) ?_
                refine lv_imul C.1 C.2.1 dX9_readRun_106 (x_gen (fun v295 => ?_))
                refine lv_iload C.1 C.2.1 dX9_readRun_107 (lv_at hl 1 rfl) ?_
                refine lv_bipush (v := 48) C.1 C.2.1 dX9_readRun_109 (by decide) ?_
                refine lv_isub C.1 C.2.1 dX9_readRun_111 (x_genP (fun z : Int32 => z.toInt = r264.toInt - 48) (i_sub (X := r264.toInt) (Y := 48) rfl rfl (by omega) (by omega)) (fun v296 hv296 => ?_))
                refine lv_iadd C.1 C.2.1 dX9_readRun_112 (x_gen (fun v297 => ?_))
                refine x_put (w' := [(qt_keyCodes, eJ G 27 qt_keyCodes_c), (qt, .inr (8, [.ref qt_keyCodes, .ref qt_bytes, .int qt_size, .int qt_most, .int j143, .int qt_kind, .int qt_place, .int v297, .long j145, .int qt_key, .int qt_fault, .int qt_faultPlace])), (qt_bytes, eB G 940 qt_bytes_c)]) C hw iwX9 tyX9_ok nmX9 8 rfl 1 rfl 7 (by decide) kw101 rfl rfl rfl (Nat.le_of_ble_eq_true rfl) rfl dX9_readRun_113 (fun H locs hw => ?_)
                refine lv_aload_n C.1 C.2.1 dX9_readRun_116 rfl (lv_at hl 4 rfl) ?_
                refine lv_dup C.1 C.2.1 dX9_readRun_117 rfl ?_
                refine x_get C hw iwX9 8 rfl 1 rfl 4 (by decide) kw93 rfl dX9_readRun_118 ?_
                refine lv_iconst (v := 1) C.1 C.2.1 dX9_readRun_121 (by decide) ?_
                refine lv_iadd C.1 C.2.1 dX9_readRun_122 (x_genP (fun z : Int32 => z.toInt = j143.toInt + 1) (i_add (X := j143.toInt) (Y := 1) rfl rfl (by omega) (by omega)) (fun v298 hv298 => ?_))
                refine x_put (w' := [(qt_keyCodes, eJ G 27 qt_keyCodes_c), (qt, .inr (8, [.ref qt_keyCodes, .ref qt_bytes, .int qt_size, .int qt_most, .int v298, .int qt_kind, .int qt_place, .int v297, .long j145, .int qt_key, .int qt_fault, .int qt_faultPlace])), (qt_bytes, eB G 940 qt_bytes_c)]) C hw iwX9 tyX9_ok nmX9 8 rfl 1 rfl 4 (by decide) kw93 rfl rfl rfl (Nat.le_of_ble_eq_true rfl) rfl dX9_readRun_123 (fun H locs hw => ?_)
                refine lv_goto (tgt := 131) C.1 C.2.1 dX9_readRun_126 (by decide) ?_
                exact J291 j140 v294 j142 v298 v297 j145  (by omega) (by omega) (by omega) _ _ _ hw (lv_sub hl [2, 0, 3, 4] rfl)
          · skip
            have c267 : 97 ≤ r264.toInt := i_ltF (X := r264.toInt) (Y := 97) rfl rfl c267
            refine lv_iload C.1 C.2.1 dX9_readRun_38 (lv_at hl 0 rfl) ?_
            refine lv_bipush (v := 122) C.1 C.2.1 dX9_readRun_40 (by decide) ?_
            refine lv_icmp_gt (tgt := 82) C.1 C.2.1 dX9_readRun_42 (by decide) (fun c299 => ?_) (fun c299 => ?_)
            · skip
              have c299 : 122 < r264.toInt := i_ltT (X := 122) (Y := r264.toInt) rfl rfl c299
              refine lv_iload C.1 C.2.1 dX9_readRun_82 (lv_at hl 0 rfl) ?_
              refine lv_bipush (v := 48) C.1 C.2.1 dX9_readRun_84 (by decide) ?_
              refine lv_icmp_lt (tgt := 129) C.1 C.2.1 dX9_readRun_86 (by decide) (fun c300 => ?_) (fun c300 => ?_)
              · skip
                have c300 : r264.toInt < 48 := i_ltT (X := r264.toInt) (Y := 48) rfl rfl c300
                exfalso; omega
              · skip
                have c300 : 48 ≤ r264.toInt := i_ltF (X := r264.toInt) (Y := 48) rfl rfl c300
                refine lv_iload C.1 C.2.1 dX9_readRun_89 (lv_at hl 0 rfl) ?_
                refine lv_bipush (v := 57) C.1 C.2.1 dX9_readRun_91 (by decide) ?_
                refine lv_icmp_gt (tgt := 129) C.1 C.2.1 dX9_readRun_93 (by decide) (fun c301 => ?_) (fun c301 => ?_)
                · skip
                  have c301 : 57 < r264.toInt := i_ltT (X := 57) (Y := r264.toInt) rfl rfl c301
                  refine lv_iconst (v := 0) C.1 C.2.1 dX9_readRun_129 (by decide) ?_
                  refine lv_istore_n (lv' := [(3, .int 0), (4, .int r264), (2, .int j141), (1, .int j142), (0, .ref qt)]) C.1 C.2.1 dX9_readRun_130 rfl hl (by decide) rfl (fun ls hl => ?_)
                  exact J291 0 j141 j142 j143 j144 j145  (by decide) (by omega) (by have e0 : (0 : Int32).toInt = 0 := rfl; omega) _ _ _ hw (lv_sub hl [0, 2, 3, 4] rfl)
                · skip
                  have c301 : r264.toInt ≤ 57 := i_ltF (X := 57) (Y := r264.toInt) rfl rfl c301
                  exfalso; omega
            · skip
              have c299 : r264.toInt ≤ 122 := i_ltF (X := 122) (Y := r264.toInt) rfl rfl c299
              obtain ⟨v302, ev302⟩ : ∃ z : Int32, j142 + 1 = z := ⟨_, rfl⟩
              refine lv_iinc (v := v302) (lv' := [(1, .int v302), (4, .int r264), (3, .int j140), (2, .int j141), (0, .ref qt)]) C.1 C.2.1 dX9_readRun_45 hl (k := 3) rfl ev302 (by decide) rfl (fun ls hl => ?_)
              refine lv_aload_n C.1 C.2.1 dX9_readRun_48 rfl (lv_at hl 4 rfl) ?_
              refine lv_aload_n C.1 C.2.1 dX9_readRun_49 rfl (lv_at hl 4 rfl) ?_
              refine x_get C hw iwX9 8 rfl 1 rfl 8 (by decide) kw105 rfl dX9_readRun_50 ?_
              refine lv_ldc2 (v := 32) C.1 C.2.1 C.2.2.2.1 (C.2.2.2.2 _ kw87) dX9_readRun_53 ?_
              refine lv_lmul C.1 C.2.1 dX9_readRun_56 (x_genl (fun v303 => ?_))
              refine lv_iload C.1 C.2.1 dX9_readRun_57 (lv_at hl 1 rfl) ?_
              refine lv_bipush (v := 97) C.1 C.2.1 dX9_readRun_59 (by decide) ?_
              refine lv_isub C.1 C.2.1 dX9_readRun_61 (x_genP (fun z : Int32 => z.toInt = r264.toInt - 97) (i_sub (X := r264.toInt) (Y := 97) rfl rfl (by omega) (by omega)) (fun v304 hv304 => ?_))
              refine lv_iconst (v := 1) C.1 C.2.1 dX9_readRun_62 (by decide) ?_
              refine lv_iadd C.1 C.2.1 dX9_readRun_63 (x_genP (fun z : Int32 => z.toInt = v304.toInt + 1) (i_add (X := v304.toInt) (Y := 1) rfl rfl (by omega) (by omega)) (fun v305 hv305 => ?_))
              refine lv_i2l (v := v305.toInt64) C.1 C.2.1 dX9_readRun_64 rfl (x_genl (fun v306 => ?_))
              refine lv_ladd C.1 C.2.1 dX9_readRun_65 (x_genl (fun v307 => ?_))
              refine x_put (w' := [(qt_keyCodes, eJ G 27 qt_keyCodes_c), (qt, .inr (8, [.ref qt_keyCodes, .ref qt_bytes, .int qt_size, .int qt_most, .int j143, .int qt_kind, .int qt_place, .int j144, .long v307, .int qt_key, .int qt_fault, .int qt_faultPlace])), (qt_bytes, eB G 940 qt_bytes_c)]) C hw iwX9 tyX9_ok nmX9 8 rfl 1 rfl 8 (by decide) kw105 rfl rfl rfl (Nat.le_of_ble_eq_true rfl) rfl dX9_readRun_66 (fun H locs hw => ?_)
              refine lv_aload_n C.1 C.2.1 dX9_readRun_69 rfl (lv_at hl 4 rfl) ?_
              refine lv_dup C.1 C.2.1 dX9_readRun_70 rfl ?_
              refine x_get C hw iwX9 8 rfl 1 rfl 4 (by decide) kw93 rfl dX9_readRun_71 ?_
              refine lv_iconst (v := 1) C.1 C.2.1 dX9_readRun_74 (by decide) ?_
              refine lv_iadd C.1 C.2.1 dX9_readRun_75 (x_genP (fun z : Int32 => z.toInt = j143.toInt + 1) (i_add (X := j143.toInt) (Y := 1) rfl rfl (by omega) (by omega)) (fun v308 hv308 => ?_))
              refine x_put (w' := [(qt_keyCodes, eJ G 27 qt_keyCodes_c), (qt, .inr (8, [.ref qt_keyCodes, .ref qt_bytes, .int qt_size, .int qt_most, .int v308, .int qt_kind, .int qt_place, .int j144, .long v307, .int qt_key, .int qt_fault, .int qt_faultPlace])), (qt_bytes, eB G 940 qt_bytes_c)]) C hw iwX9 tyX9_ok nmX9 8 rfl 1 rfl 4 (by decide) kw93 rfl rfl rfl (Nat.le_of_ble_eq_true rfl) rfl dX9_readRun_76 (fun H locs hw => ?_)
              refine lv_goto (tgt := 131) C.1 C.2.1 dX9_readRun_79 (by decide) ?_
              exact J291 j140 j141 v302 v308 j144 v307  (by omega) (by omega) (by omega) _ _ _ hw (lv_sub hl [2, 3, 0, 4] rfl)
  exact loopJ146 _ 1 0 0 qt_from qt_value qt_code (Nat.lt_succ_self _) (by decide) _ _ _ hw (lv_sub hl [0, 1, 2, 3] rfl)
theorem dX9_next_0 : decode cX9_next 0 = .ok (.aload_n 0, 1) := by decide +kernel
theorem dX9_next_1 : decode cX9_next 1 = .ok (.aload_n 0, 1) := by decide +kernel
theorem dX9_next_2 : decode cX9_next 2 = .ok (.getfield 50, 3) := by decide +kernel
theorem dX9_next_5 : decode cX9_next 5 = .ok (.invokevirtual 37, 3) := by decide +kernel
theorem dX9_next_8 : decode cX9_next 8 = .ok (.istore_n 1, 1) := by decide +kernel
theorem dX9_next_9 : decode cX9_next 9 = .ok (.aload_n 0, 1) := by decide +kernel
theorem dX9_next_10 : decode cX9_next 10 = .ok (.getfield 50, 3) := by decide +kernel
theorem dX9_next_13 : decode cX9_next 13 = .ok (.aload_n 0, 1) := by decide +kernel
theorem dX9_next_14 : decode cX9_next 14 = .ok (.getfield 33, 3) := by decide +kernel
theorem dX9_next_17 : decode cX9_next 17 = .ok (.if_icmp .ge 37, 3) := by decide +kernel
theorem dX9_next_20 : decode cX9_next 20 = .ok (.iload_n 1, 1) := by decide +kernel
theorem dX9_next_21 : decode cX9_next 21 = .ok (.bipush 32, 2) := by decide +kernel
theorem dX9_next_23 : decode cX9_next 23 = .ok (.if_icmp .eq 9, 3) := by decide +kernel
theorem dX9_next_32 : decode cX9_next 32 = .ok (.aload_n 0, 1) := by decide +kernel
theorem dX9_next_33 : decode cX9_next 33 = .ok (.dup, 1) := by decide +kernel
theorem dX9_next_34 : decode cX9_next 34 = .ok (.getfield 50, 3) := by decide +kernel
theorem dX9_next_37 : decode cX9_next 37 = .ok (.iconst 1, 1) := by decide +kernel
theorem dX9_next_38 : decode cX9_next 38 = .ok (.iadd, 1) := by decide +kernel
theorem dX9_next_39 : decode cX9_next 39 = .ok (.putfield 50, 3) := by decide +kernel
theorem dX9_next_42 : decode cX9_next 42 = .ok (.aload_n 0, 1) := by decide +kernel
theorem dX9_next_43 : decode cX9_next 43 = .ok (.aload_n 0, 1) := by decide +kernel
theorem dX9_next_44 : decode cX9_next 44 = .ok (.getfield 50, 3) := by decide +kernel
theorem dX9_next_47 : decode cX9_next 47 = .ok (.invokevirtual 37, 3) := by decide +kernel
theorem dX9_next_50 : decode cX9_next 50 = .ok (.istore_n 1, 1) := by decide +kernel
theorem dX9_next_51 : decode cX9_next 51 = .ok (.goto (-42), 3) := by decide +kernel
theorem dX9_next_26 : decode cX9_next 26 = .ok (.iload_n 1, 1) := by decide +kernel
theorem dX9_next_27 : decode cX9_next 27 = .ok (.bipush 10, 2) := by decide +kernel
theorem dX9_next_29 : decode cX9_next 29 = .ok (.if_icmp .ne 25, 3) := by decide +kernel
theorem dX9_next_54 : decode cX9_next 54 = .ok (.aload_n 0, 1) := by decide +kernel
theorem dX9_next_55 : decode cX9_next 55 = .ok (.aload_n 0, 1) := by decide +kernel
theorem dX9_next_56 : decode cX9_next 56 = .ok (.getfield 50, 3) := by decide +kernel
theorem dX9_next_59 : decode cX9_next 59 = .ok (.putfield 59, 3) := by decide +kernel
theorem dX9_next_62 : decode cX9_next 62 = .ok (.aload_n 0, 1) := by decide +kernel
theorem dX9_next_63 : decode cX9_next 63 = .ok (.iconst 0, 1) := by decide +kernel
theorem dX9_next_64 : decode cX9_next 64 = .ok (.putfield 62, 3) := by decide +kernel
theorem dX9_next_67 : decode cX9_next 67 = .ok (.aload_n 0, 1) := by decide +kernel
theorem dX9_next_68 : decode cX9_next 68 = .ok (.lconst 0, 1) := by decide +kernel
theorem dX9_next_69 : decode cX9_next 69 = .ok (.putfield 65, 3) := by decide +kernel
theorem dX9_next_72 : decode cX9_next 72 = .ok (.aload_n 0, 1) := by decide +kernel
theorem dX9_next_73 : decode cX9_next 73 = .ok (.iconst (-1), 1) := by decide +kernel
theorem dX9_next_74 : decode cX9_next 74 = .ok (.putfield 69, 3) := by decide +kernel
theorem dX9_next_77 : decode cX9_next 77 = .ok (.aload_n 0, 1) := by decide +kernel
theorem dX9_next_78 : decode cX9_next 78 = .ok (.getfield 33, 3) := by decide +kernel
theorem dX9_next_81 : decode cX9_next 81 = .ok (.aload_n 0, 1) := by decide +kernel
theorem dX9_next_82 : decode cX9_next 82 = .ok (.getfield 47, 3) := by decide +kernel
theorem dX9_next_85 : decode cX9_next 85 = .ok (.if_icmp .le 30, 3) := by decide +kernel
theorem dX9_next_115 : decode cX9_next 115 = .ok (.aload_n 0, 1) := by decide +kernel
theorem dX9_next_116 : decode cX9_next 116 = .ok (.getfield 50, 3) := by decide +kernel
theorem dX9_next_119 : decode cX9_next 119 = .ok (.aload_n 0, 1) := by decide +kernel
theorem dX9_next_120 : decode cX9_next 120 = .ok (.getfield 33, 3) := by decide +kernel
theorem dX9_next_123 : decode cX9_next 123 = .ok (.if_icmp .lt 11, 3) := by decide +kernel
theorem dX9_next_134 : decode cX9_next 134 = .ok (.iload_n 1, 1) := by decide +kernel
theorem dX9_next_135 : decode cX9_next 135 = .ok (.bipush 97, 2) := by decide +kernel
theorem dX9_next_137 : decode cX9_next 137 = .ok (.if_icmp .lt 9, 3) := by decide +kernel
theorem dX9_next_146 : decode cX9_next 146 = .ok (.iload_n 1, 1) := by decide +kernel
theorem dX9_next_147 : decode cX9_next 147 = .ok (.bipush 48, 2) := by decide +kernel
theorem dX9_next_149 : decode cX9_next 149 = .ok (.if_icmp .lt 16, 3) := by decide +kernel
theorem dX9_next_165 : decode cX9_next 165 = .ok (.aload_n 0, 1) := by decide +kernel
theorem dX9_next_166 : decode cX9_next 166 = .ok (.iload_n 1, 1) := by decide +kernel
theorem dX9_next_167 : decode cX9_next 167 = .ok (.bipush 59, 2) := by decide +kernel
theorem dX9_next_169 : decode cX9_next 169 = .ok (.if_icmp .lt 9, 3) := by decide +kernel
theorem dX9_next_178 : decode cX9_next 178 = .ok (.iload_n 1, 1) := by decide +kernel
theorem dX9_next_179 : decode cX9_next 179 = .ok (.bipush 40, 2) := by decide +kernel
theorem dX9_next_181 : decode cX9_next 181 = .ok (.if_icmp .eq 9, 3) := by decide +kernel
theorem dX9_next_190 : decode cX9_next 190 = .ok (.iconst 5, 1) := by decide +kernel
theorem dX9_next_191 : decode cX9_next 191 = .ok (.goto 4, 3) := by decide +kernel
theorem dX9_next_184 : decode cX9_next 184 = .ok (.iload_n 1, 1) := by decide +kernel
theorem dX9_next_185 : decode cX9_next 185 = .ok (.bipush 41, 2) := by decide +kernel
theorem dX9_next_187 : decode cX9_next 187 = .ok (.if_icmp .ne 7, 3) := by decide +kernel
theorem dX9_next_194 : decode cX9_next 194 = .ok (.iconst 1, 1) := by decide +kernel
theorem dX9_next_195 : decode cX9_next 195 = .ok (.putfield 72, 3) := by decide +kernel
theorem dX9_next_198 : decode cX9_next 198 = .ok (.aload_n 0, 1) := by decide +kernel
theorem dX9_next_199 : decode cX9_next 199 = .ok (.iload_n 1, 1) := by decide +kernel
theorem dX9_next_200 : decode cX9_next 200 = .ok (.putfield 62, 3) := by decide +kernel
theorem dX9_next_203 : decode cX9_next 203 = .ok (.aload_n 0, 1) := by decide +kernel
theorem dX9_next_204 : decode cX9_next 204 = .ok (.dup, 1) := by decide +kernel
theorem dX9_next_205 : decode cX9_next 205 = .ok (.getfield 50, 3) := by decide +kernel
theorem dX9_next_208 : decode cX9_next 208 = .ok (.iconst 1, 1) := by decide +kernel
theorem dX9_next_209 : decode cX9_next 209 = .ok (.iadd, 1) := by decide +kernel
theorem dX9_next_210 : decode cX9_next 210 = .ok (.putfield 50, 3) := by decide +kernel
theorem dX9_next_213 : decode cX9_next 213 = .ok (.return_, 1) := by decide +kernel
theorem dX9_next_152 : decode cX9_next 152 = .ok (.iload_n 1, 1) := by decide +kernel
theorem dX9_next_153 : decode cX9_next 153 = .ok (.bipush 57, 2) := by decide +kernel
theorem dX9_next_155 : decode cX9_next 155 = .ok (.if_icmp .gt 10, 3) := by decide +kernel
theorem dX9_next_172 : decode cX9_next 172 = .ok (.iload_n 1, 1) := by decide +kernel
theorem dX9_next_173 : decode cX9_next 173 = .ok (.bipush 62, 2) := by decide +kernel
theorem dX9_next_175 : decode cX9_next 175 = .ok (.if_icmp .le 15, 3) := by decide +kernel
theorem dX9_next_158 : decode cX9_next 158 = .ok (.aload_n 0, 1) := by decide +kernel
theorem dX9_next_159 : decode cX9_next 159 = .ok (.invokevirtual 75, 3) := by decide +kernel
theorem mwX9_readRun : MwV yX9_readRun cX9_readRun 5 none 0 := ⟨⟨kw537, kw2, by decide +kernel⟩, kw536, kS2⟩
theorem dX9_next_162 : decode cX9_next 162 = .ok (.goto 51, 3) := by decide +kernel
theorem dX9_next_140 : decode cX9_next 140 = .ok (.iload_n 1, 1) := by decide +kernel
theorem dX9_next_141 : decode cX9_next 141 = .ok (.bipush 122, 2) := by decide +kernel
theorem dX9_next_143 : decode cX9_next 143 = .ok (.if_icmp .le 15, 3) := by decide +kernel
theorem dX9_next_126 : decode cX9_next 126 = .ok (.aload_n 0, 1) := by decide +kernel
theorem dX9_next_127 : decode cX9_next 127 = .ok (.iconst 0, 1) := by decide +kernel
theorem dX9_next_128 : decode cX9_next 128 = .ok (.putfield 72, 3) := by decide +kernel
theorem dX9_next_131 : decode cX9_next 131 = .ok (.goto 82, 3) := by decide +kernel
theorem dX9_next_88 : decode cX9_next 88 = .ok (.aload_n 0, 1) := by decide +kernel
theorem dX9_next_89 : decode cX9_next 89 = .ok (.getfield 50, 3) := by decide +kernel
theorem dX9_next_92 : decode cX9_next 92 = .ok (.aload_n 0, 1) := by decide +kernel
theorem dX9_next_93 : decode cX9_next 93 = .ok (.getfield 47, 3) := by decide +kernel
theorem dX9_next_96 : decode cX9_next 96 = .ok (.if_icmp .lt 19, 3) := by decide +kernel
theorem dX9_next_99 : decode cX9_next 99 = .ok (.aload_n 0, 1) := by decide +kernel
theorem dX9_next_100 : decode cX9_next 100 = .ok (.iconst 1, 1) := by decide +kernel
theorem dX9_next_101 : decode cX9_next 101 = .ok (.putfield 72, 3) := by decide +kernel
theorem dX9_next_104 : decode cX9_next 104 = .ok (.aload_n 0, 1) := by decide +kernel
theorem dX9_next_105 : decode cX9_next 105 = .ok (.aload_n 0, 1) := by decide +kernel
theorem dX9_next_106 : decode cX9_next 106 = .ok (.getfield 47, 3) := by decide +kernel
theorem dX9_next_109 : decode cX9_next 109 = .ok (.putfield 59, 3) := by decide +kernel
theorem dX9_next_112 : decode cX9_next 112 = .ok (.goto 101, 3) := by decide +kernel
set_option maxHeartbeats 4000000 in
set_option maxRecDepth 100000 in
theorem s_X9_next {l : Launch} {G : Gc} (qt : Nat) (qt_keyCodes : Nat) (qt_bytes : Nat) (qt_size : Int32) (qt_most : Int32) (qt_from : Int32) (qt_kind : Int32) (qt_place : Int32) (qt_value : Int32) (qt_code : Int64) (qt_key : Int32) (qt_fault : Int32) (qt_faultPlace : Int32) (qt_keyCodes_c : Nat → Int64) (qt_bytes_c : Nat → Int32) (hi_qt_size : 0 ≤ qt_size.toInt ∧ qt_size.toInt ≤ 940) : Cv l yX9_next cX9_next 2 2 0 0 G [.ref qt] [(qt, .inr (8, [.ref qt_keyCodes, .ref qt_bytes, .int qt_size, .int qt_most, .int qt_from, .int qt_kind, .int qt_place, .int qt_value, .long qt_code, .int qt_key, .int qt_fault, .int qt_faultPlace])), (qt_keyCodes, eJ G 27 qt_keyCodes_c), (qt_bytes, eB G 940 qt_bytes_c)] (fun (u9 : va_W) => ∃ (x0_qt_from : Int32) (x1_qt_kind : Int32) (x2_qt_place : Int32) (x3_qt_value : Int32) (x4_qt_code : Int64) (x5_qt_key : Int32), u9 = [(qt, .inr (8, [.ref qt_keyCodes, .ref qt_bytes, .int qt_size, .int qt_most, .int x0_qt_from, .int x1_qt_kind, .int x2_qt_place, .int x3_qt_value, .long x4_qt_code, .int x5_qt_key, .int qt_fault, .int qt_faultPlace])), (qt_keyCodes, eJ G 27 qt_keyCodes_c), (qt_bytes, eB G 940 qt_bytes_c)] ∧ (0 ≤ x1_qt_kind.toInt ∧ x1_qt_kind.toInt ≤ 5)) := by
  refine Cv.ofQ (by decide) (Nat.le_of_ble_eq_true rfl) ?_
  intro p e s m below meth c ls A args Q hQ B hw hl
  have C : CallFix p m c cX9_next 2 s args gw "LanternState$Tape" := B.1
  have hl : lv_has ls 2 [(0, .ref qt)] := hl
  refine lv_aload_n C.1 C.2.1 dX9_next_0 rfl (lv_at hl 0 rfl) ?_
  refine lv_aload_n C.1 C.2.1 dX9_next_1 rfl (lv_at hl 0 rfl) ?_
  refine x_get C hw iwX9 8 rfl 0 rfl 4 (by decide) kw93 rfl dX9_next_2 ?_
  refine x_calliV (As := [.int qt_from]) (rest := []) (wr := [(qt_keyCodes, eJ G 27 qt_keyCodes_c)]) C hw (s_X9_at qt qt_from qt_keyCodes qt_bytes qt_size qt_most qt_from qt_kind qt_place qt_value qt_code qt_key qt_fault qt_faultPlace qt_bytes_c (by omega)) mwX9_at kw530 [0, 2] [1] rfl rfl rfl rfl (by decide) 0 rfl rfl rfl rfl hl.1 rfl (Nat.le_of_ble_eq_true rfl) ⟨(Nat.le_of_ble_eq_true rfl), (Nat.le_of_ble_eq_true rfl)⟩ ⟨(Nat.le_of_ble_eq_true rfl), (Nat.le_of_ble_eq_true rfl)⟩ dX9_next_5 (fun r1 u9 H locs hp9 hw => ?_)
  obtain ⟨x2, rfl, rfl, hf3⟩ := hp9
  have hw : Wd G s A [(qt_keyCodes, eJ G 27 qt_keyCodes_c), (qt, .inr (8, [.ref qt_keyCodes, .ref qt_bytes, .int qt_size, .int qt_most, .int qt_from, .int qt_kind, .int qt_place, .int qt_value, .long qt_code, .int qt_key, .int qt_fault, .int qt_faultPlace])), (qt_bytes, eB G 940 qt_bytes_c)] H _ := hw
  refine lv_istore_n (lv' := [(1, .int r1), (0, .ref qt)]) C.1 C.2.1 dX9_next_8 rfl hl (by decide) rfl (fun ls hl => ?_)
  have J35 : ∀ (j33 : Int32) (j34 : Int32), (-1 ≤ j33.toInt ∧ j33.toInt ≤ 255) → ∀ (H : Heap) (locs : List Loc) (ls : Array Slot), Wd G s A [(qt_keyCodes, eJ G 27 qt_keyCodes_c), (qt, .inr (8, [.ref qt_keyCodes, .ref qt_bytes, .int qt_size, .int qt_most, .int j34, .int qt_kind, .int qt_place, .int qt_value, .long qt_code, .int qt_key, .int qt_fault, .int qt_faultPlace])), (qt_bytes, eB G 940 qt_bytes_c)] H locs → lv_has ls 2 [(1, .int j33), (0, .ref qt)] → W p l e (rmD 2 0 0) s m args below meth c H locs 0 0 Q (F0 m 54 ls []) := by
    intro j33 j34 hJ35_0 H locs ls hw hl
    refine lv_aload_n C.1 C.2.1 dX9_next_54 rfl (lv_at hl 1 rfl) ?_
    refine lv_aload_n C.1 C.2.1 dX9_next_55 rfl (lv_at hl 1 rfl) ?_
    refine x_get C hw iwX9 8 rfl 1 rfl 4 (by decide) kw93 rfl dX9_next_56 ?_
    refine x_put (w' := [(qt_keyCodes, eJ G 27 qt_keyCodes_c), (qt, .inr (8, [.ref qt_keyCodes, .ref qt_bytes, .int qt_size, .int qt_most, .int j34, .int qt_kind, .int j34, .int qt_value, .long qt_code, .int qt_key, .int qt_fault, .int qt_faultPlace])), (qt_bytes, eB G 940 qt_bytes_c)]) C hw iwX9 tyX9_ok nmX9 8 rfl 1 rfl 6 (by decide) kw98 rfl rfl rfl (Nat.le_of_ble_eq_true rfl) rfl dX9_next_59 (fun H locs hw => ?_)
    refine lv_aload_n C.1 C.2.1 dX9_next_62 rfl (lv_at hl 1 rfl) ?_
    refine lv_iconst (v := 0) C.1 C.2.1 dX9_next_63 (by decide) ?_
    refine x_put (w' := [(qt_keyCodes, eJ G 27 qt_keyCodes_c), (qt, .inr (8, [.ref qt_keyCodes, .ref qt_bytes, .int qt_size, .int qt_most, .int j34, .int qt_kind, .int j34, .int 0, .long qt_code, .int qt_key, .int qt_fault, .int qt_faultPlace])), (qt_bytes, eB G 940 qt_bytes_c)]) C hw iwX9 tyX9_ok nmX9 8 rfl 1 rfl 7 (by decide) kw101 rfl rfl rfl (Nat.le_of_ble_eq_true rfl) rfl dX9_next_64 (fun H locs hw => ?_)
    refine lv_aload_n C.1 C.2.1 dX9_next_67 rfl (lv_at hl 1 rfl) ?_
    refine lv_lconst (v := 0) C.1 C.2.1 dX9_next_68 (by decide) ?_
    refine x_put (w' := [(qt_keyCodes, eJ G 27 qt_keyCodes_c), (qt, .inr (8, [.ref qt_keyCodes, .ref qt_bytes, .int qt_size, .int qt_most, .int j34, .int qt_kind, .int j34, .int 0, .long 0, .int qt_key, .int qt_fault, .int qt_faultPlace])), (qt_bytes, eB G 940 qt_bytes_c)]) C hw iwX9 tyX9_ok nmX9 8 rfl 1 rfl 8 (by decide) kw105 rfl rfl rfl (Nat.le_of_ble_eq_true rfl) rfl dX9_next_69 (fun H locs hw => ?_)
    refine lv_aload_n C.1 C.2.1 dX9_next_72 rfl (lv_at hl 1 rfl) ?_
    refine lv_iconst (v := (-1)) C.1 C.2.1 dX9_next_73 (by decide) ?_
    refine x_put (w' := [(qt_keyCodes, eJ G 27 qt_keyCodes_c), (qt, .inr (8, [.ref qt_keyCodes, .ref qt_bytes, .int qt_size, .int qt_most, .int j34, .int qt_kind, .int j34, .int 0, .long 0, .int (-1), .int qt_fault, .int qt_faultPlace])), (qt_bytes, eB G 940 qt_bytes_c)]) C hw iwX9 tyX9_ok nmX9 8 rfl 1 rfl 9 (by decide) kw109 rfl rfl rfl (Nat.le_of_ble_eq_true rfl) rfl dX9_next_74 (fun H locs hw => ?_)
    refine lv_aload_n C.1 C.2.1 dX9_next_77 rfl (lv_at hl 1 rfl) ?_
    refine x_get C hw iwX9 8 rfl 1 rfl 2 (by decide) kw91 rfl dX9_next_78 ?_
    refine lv_aload_n C.1 C.2.1 dX9_next_81 rfl (lv_at hl 1 rfl) ?_
    refine x_get C hw iwX9 8 rfl 1 rfl 3 (by decide) kw92 rfl dX9_next_82 ?_
    refine lv_icmp_le (tgt := 115) C.1 C.2.1 dX9_next_85 (by decide) (fun c36 => ?_) (fun c36 => ?_)
    · skip
      have c36 : qt_size.toInt ≤ qt_most.toInt := i_leT (X := qt_size.toInt) (Y := qt_most.toInt) rfl rfl c36
      have bc36_qt_most := i_bd qt_most
      refine lv_aload_n C.1 C.2.1 dX9_next_115 rfl (lv_at hl 1 rfl) ?_
      refine x_get C hw iwX9 8 rfl 1 rfl 4 (by decide) kw93 rfl dX9_next_116 ?_
      refine lv_aload_n C.1 C.2.1 dX9_next_119 rfl (lv_at hl 1 rfl) ?_
      refine x_get C hw iwX9 8 rfl 1 rfl 2 (by decide) kw91 rfl dX9_next_120 ?_
      refine lv_icmp_lt (tgt := 134) C.1 C.2.1 dX9_next_123 (by decide) (fun c37 => ?_) (fun c37 => ?_)
      · skip
        have c37 : j34.toInt < qt_size.toInt := i_ltT (X := j34.toInt) (Y := qt_size.toInt) rfl rfl c37
        have bc37_j34 := i_bd j34
        refine lv_iload_n C.1 C.2.1 dX9_next_134 rfl (lv_at hl 0 rfl) ?_
        refine lv_bipush (v := 97) C.1 C.2.1 dX9_next_135 (by decide) ?_
        refine lv_icmp_lt (tgt := 146) C.1 C.2.1 dX9_next_137 (by decide) (fun c38 => ?_) (fun c38 => ?_)
        · skip
          have c38 : j33.toInt < 97 := i_ltT (X := j33.toInt) (Y := 97) rfl rfl c38
          refine lv_iload_n C.1 C.2.1 dX9_next_146 rfl (lv_at hl 0 rfl) ?_
          refine lv_bipush (v := 48) C.1 C.2.1 dX9_next_147 (by decide) ?_
          refine lv_icmp_lt (tgt := 165) C.1 C.2.1 dX9_next_149 (by decide) (fun c39 => ?_) (fun c39 => ?_)
          · skip
            have c39 : j33.toInt < 48 := i_ltT (X := j33.toInt) (Y := 48) rfl rfl c39
            refine lv_aload_n C.1 C.2.1 dX9_next_165 rfl (lv_at hl 1 rfl) ?_
            refine lv_iload_n C.1 C.2.1 dX9_next_166 rfl (lv_at hl 0 rfl) ?_
            refine lv_bipush (v := 59) C.1 C.2.1 dX9_next_167 (by decide) ?_
            have J44 : ∀ (j43 : Int32), (1 ≤ j43.toInt ∧ j43.toInt ≤ 5) → ∀ (H : Heap) (locs : List Loc) (ls : Array Slot), Wd G s A [(qt_keyCodes, eJ G 27 qt_keyCodes_c), (qt, .inr (8, [.ref qt_keyCodes, .ref qt_bytes, .int qt_size, .int qt_most, .int j34, .int qt_kind, .int j34, .int 0, .long 0, .int (-1), .int qt_fault, .int qt_faultPlace])), (qt_bytes, eB G 940 qt_bytes_c)] H locs → lv_has ls 2 [(1, .int j33), (0, .ref qt)] → W p l e (rmD 2 0 0) s m args below meth c H locs 0 0 Q (F0 m 195 ls [.int j43, .ref qt]) := by
              intro j43 hJ44_0 H locs ls hw hl
              refine x_put (w' := [(qt_keyCodes, eJ G 27 qt_keyCodes_c), (qt, .inr (8, [.ref qt_keyCodes, .ref qt_bytes, .int qt_size, .int qt_most, .int j34, .int j43, .int j34, .int 0, .long 0, .int (-1), .int qt_fault, .int qt_faultPlace])), (qt_bytes, eB G 940 qt_bytes_c)]) C hw iwX9 tyX9_ok nmX9 8 rfl 1 rfl 5 (by decide) kw97 rfl rfl rfl (Nat.le_of_ble_eq_true rfl) rfl dX9_next_195 (fun H locs hw => ?_)
              refine lv_aload_n C.1 C.2.1 dX9_next_198 rfl (lv_at hl 1 rfl) ?_
              refine lv_iload_n C.1 C.2.1 dX9_next_199 rfl (lv_at hl 0 rfl) ?_
              refine x_put (w' := [(qt_keyCodes, eJ G 27 qt_keyCodes_c), (qt, .inr (8, [.ref qt_keyCodes, .ref qt_bytes, .int qt_size, .int qt_most, .int j34, .int j43, .int j34, .int j33, .long 0, .int (-1), .int qt_fault, .int qt_faultPlace])), (qt_bytes, eB G 940 qt_bytes_c)]) C hw iwX9 tyX9_ok nmX9 8 rfl 1 rfl 7 (by decide) kw101 rfl rfl rfl (Nat.le_of_ble_eq_true rfl) rfl dX9_next_200 (fun H locs hw => ?_)
              refine lv_aload_n C.1 C.2.1 dX9_next_203 rfl (lv_at hl 1 rfl) ?_
              refine lv_dup C.1 C.2.1 dX9_next_204 rfl ?_
              refine x_get C hw iwX9 8 rfl 1 rfl 4 (by decide) kw93 rfl dX9_next_205 ?_
              refine lv_iconst (v := 1) C.1 C.2.1 dX9_next_208 (by decide) ?_
              refine lv_iadd C.1 C.2.1 dX9_next_209 (x_genP (fun z : Int32 => z.toInt = j34.toInt + 1) (i_add (X := j34.toInt) (Y := 1) rfl rfl (by omega) (by omega)) (fun v45 hv45 => ?_))
              refine x_put (w' := [(qt_keyCodes, eJ G 27 qt_keyCodes_c), (qt, .inr (8, [.ref qt_keyCodes, .ref qt_bytes, .int qt_size, .int qt_most, .int v45, .int j43, .int j34, .int j33, .long 0, .int (-1), .int qt_fault, .int qt_faultPlace])), (qt_bytes, eB G 940 qt_bytes_c)]) C hw iwX9 tyX9_ok nmX9 8 rfl 1 rfl 4 (by decide) kw93 rfl rfl rfl (Nat.le_of_ble_eq_true rfl) rfl dX9_next_210 (fun H locs hw => ?_)
              have hw := hw.sub (w' := [(qt, .inr (8, [.ref qt_keyCodes, .ref qt_bytes, .int qt_size, .int qt_most, .int v45, .int j43, .int j34, .int j33, .long 0, .int (-1), .int qt_fault, .int qt_faultPlace])), (qt_keyCodes, eJ G 27 qt_keyCodes_c), (qt_bytes, eB G 940 qt_bytes_c)]) [1, 0, 2] rfl rfl
              exact x_retvQ hQ B hw ⟨v45, j43, j34, j33, 0, (-1), rfl, (by omega)⟩ (Nat.le_of_ble_eq_true rfl) (Nat.le_of_ble_eq_true rfl) dX9_next_213
            refine lv_icmp_lt (tgt := 178) C.1 C.2.1 dX9_next_169 (by decide) (fun c40 => ?_) (fun c40 => ?_)
            · skip
              have c40 : j33.toInt < 59 := i_ltT (X := j33.toInt) (Y := 59) rfl rfl c40
              refine lv_iload_n C.1 C.2.1 dX9_next_178 rfl (lv_at hl 0 rfl) ?_
              refine lv_bipush (v := 40) C.1 C.2.1 dX9_next_179 (by decide) ?_
              refine lv_icmp_eq (tgt := 190) C.1 C.2.1 dX9_next_181 (by decide) (fun c46 => ?_) (fun c46 => ?_)
              · skip
                have c46 : j33.toInt = 40 := i_eqT (X := j33.toInt) (Y := 40) rfl rfl c46
                refine lv_iconst (v := 5) C.1 C.2.1 dX9_next_190 (by decide) ?_
                refine lv_goto (tgt := 195) C.1 C.2.1 dX9_next_191 (by decide) ?_
                exact J44 5  (by decide) _ _ _ hw (lv_sub hl [0, 1] rfl)
              · skip
                have c46 : j33.toInt ≠ 40 := i_eqF (X := j33.toInt) (Y := 40) rfl rfl c46
                refine lv_iload_n C.1 C.2.1 dX9_next_184 rfl (lv_at hl 0 rfl) ?_
                refine lv_bipush (v := 41) C.1 C.2.1 dX9_next_185 (by decide) ?_
                refine lv_icmp_ne (tgt := 194) C.1 C.2.1 dX9_next_187 (by decide) (fun c47 => ?_) (fun c47 => ?_)
                · skip
                  have c47 : j33.toInt ≠ 41 := i_eqF (X := j33.toInt) (Y := 41) rfl rfl c47
                  refine lv_iconst (v := 1) C.1 C.2.1 dX9_next_194 (by decide) ?_
                  exact J44 1  (by decide) _ _ _ hw (lv_sub hl [0, 1] rfl)
                · skip
                  have c47 : j33.toInt = 41 := i_eqT (X := j33.toInt) (Y := 41) rfl rfl c47
                  refine lv_iconst (v := 5) C.1 C.2.1 dX9_next_190 (by decide) ?_
                  refine lv_goto (tgt := 195) C.1 C.2.1 dX9_next_191 (by decide) ?_
                  exact J44 5  (by decide) _ _ _ hw (lv_sub hl [0, 1] rfl)
            · skip
              have c40 : 59 ≤ j33.toInt := i_ltF (X := j33.toInt) (Y := 59) rfl rfl c40
              exfalso; omega
          · skip
            have c39 : 48 ≤ j33.toInt := i_ltF (X := j33.toInt) (Y := 48) rfl rfl c39
            refine lv_iload_n C.1 C.2.1 dX9_next_152 rfl (lv_at hl 0 rfl) ?_
            refine lv_bipush (v := 57) C.1 C.2.1 dX9_next_153 (by decide) ?_
            refine lv_icmp_gt (tgt := 165) C.1 C.2.1 dX9_next_155 (by decide) (fun c48 => ?_) (fun c48 => ?_)
            · skip
              have c48 : 57 < j33.toInt := i_ltT (X := 57) (Y := j33.toInt) rfl rfl c48
              refine lv_aload_n C.1 C.2.1 dX9_next_165 rfl (lv_at hl 1 rfl) ?_
              refine lv_iload_n C.1 C.2.1 dX9_next_166 rfl (lv_at hl 0 rfl) ?_
              refine lv_bipush (v := 59) C.1 C.2.1 dX9_next_167 (by decide) ?_
              have J56 : ∀ (j55 : Int32), (1 ≤ j55.toInt ∧ j55.toInt ≤ 5) → ∀ (H : Heap) (locs : List Loc) (ls : Array Slot), Wd G s A [(qt_keyCodes, eJ G 27 qt_keyCodes_c), (qt, .inr (8, [.ref qt_keyCodes, .ref qt_bytes, .int qt_size, .int qt_most, .int j34, .int qt_kind, .int j34, .int 0, .long 0, .int (-1), .int qt_fault, .int qt_faultPlace])), (qt_bytes, eB G 940 qt_bytes_c)] H locs → lv_has ls 2 [(1, .int j33), (0, .ref qt)] → W p l e (rmD 2 0 0) s m args below meth c H locs 0 0 Q (F0 m 195 ls [.int j55, .ref qt]) := by
                intro j55 hJ56_0 H locs ls hw hl
                refine x_put (w' := [(qt_keyCodes, eJ G 27 qt_keyCodes_c), (qt, .inr (8, [.ref qt_keyCodes, .ref qt_bytes, .int qt_size, .int qt_most, .int j34, .int j55, .int j34, .int 0, .long 0, .int (-1), .int qt_fault, .int qt_faultPlace])), (qt_bytes, eB G 940 qt_bytes_c)]) C hw iwX9 tyX9_ok nmX9 8 rfl 1 rfl 5 (by decide) kw97 rfl rfl rfl (Nat.le_of_ble_eq_true rfl) rfl dX9_next_195 (fun H locs hw => ?_)
                refine lv_aload_n C.1 C.2.1 dX9_next_198 rfl (lv_at hl 1 rfl) ?_
                refine lv_iload_n C.1 C.2.1 dX9_next_199 rfl (lv_at hl 0 rfl) ?_
                refine x_put (w' := [(qt_keyCodes, eJ G 27 qt_keyCodes_c), (qt, .inr (8, [.ref qt_keyCodes, .ref qt_bytes, .int qt_size, .int qt_most, .int j34, .int j55, .int j34, .int j33, .long 0, .int (-1), .int qt_fault, .int qt_faultPlace])), (qt_bytes, eB G 940 qt_bytes_c)]) C hw iwX9 tyX9_ok nmX9 8 rfl 1 rfl 7 (by decide) kw101 rfl rfl rfl (Nat.le_of_ble_eq_true rfl) rfl dX9_next_200 (fun H locs hw => ?_)
                refine lv_aload_n C.1 C.2.1 dX9_next_203 rfl (lv_at hl 1 rfl) ?_
                refine lv_dup C.1 C.2.1 dX9_next_204 rfl ?_
                refine x_get C hw iwX9 8 rfl 1 rfl 4 (by decide) kw93 rfl dX9_next_205 ?_
                refine lv_iconst (v := 1) C.1 C.2.1 dX9_next_208 (by decide) ?_
                refine lv_iadd C.1 C.2.1 dX9_next_209 (x_genP (fun z : Int32 => z.toInt = j34.toInt + 1) (i_add (X := j34.toInt) (Y := 1) rfl rfl (by omega) (by omega)) (fun v57 hv57 => ?_))
                refine x_put (w' := [(qt_keyCodes, eJ G 27 qt_keyCodes_c), (qt, .inr (8, [.ref qt_keyCodes, .ref qt_bytes, .int qt_size, .int qt_most, .int v57, .int j55, .int j34, .int j33, .long 0, .int (-1), .int qt_fault, .int qt_faultPlace])), (qt_bytes, eB G 940 qt_bytes_c)]) C hw iwX9 tyX9_ok nmX9 8 rfl 1 rfl 4 (by decide) kw93 rfl rfl rfl (Nat.le_of_ble_eq_true rfl) rfl dX9_next_210 (fun H locs hw => ?_)
                have hw := hw.sub (w' := [(qt, .inr (8, [.ref qt_keyCodes, .ref qt_bytes, .int qt_size, .int qt_most, .int v57, .int j55, .int j34, .int j33, .long 0, .int (-1), .int qt_fault, .int qt_faultPlace])), (qt_keyCodes, eJ G 27 qt_keyCodes_c), (qt_bytes, eB G 940 qt_bytes_c)]) [1, 0, 2] rfl rfl
                exact x_retvQ hQ B hw ⟨v57, j55, j34, j33, 0, (-1), rfl, (by omega)⟩ (Nat.le_of_ble_eq_true rfl) (Nat.le_of_ble_eq_true rfl) dX9_next_213
              refine lv_icmp_lt (tgt := 178) C.1 C.2.1 dX9_next_169 (by decide) (fun c49 => ?_) (fun c49 => ?_)
              · skip
                have c49 : j33.toInt < 59 := i_ltT (X := j33.toInt) (Y := 59) rfl rfl c49
                refine lv_iload_n C.1 C.2.1 dX9_next_178 rfl (lv_at hl 0 rfl) ?_
                refine lv_bipush (v := 40) C.1 C.2.1 dX9_next_179 (by decide) ?_
                refine lv_icmp_eq (tgt := 190) C.1 C.2.1 dX9_next_181 (by decide) (fun c58 => ?_) (fun c58 => ?_)
                · skip
                  have c58 : j33.toInt = 40 := i_eqT (X := j33.toInt) (Y := 40) rfl rfl c58
                  exfalso; omega
                · skip
                  have c58 : j33.toInt ≠ 40 := i_eqF (X := j33.toInt) (Y := 40) rfl rfl c58
                  refine lv_iload_n C.1 C.2.1 dX9_next_184 rfl (lv_at hl 0 rfl) ?_
                  refine lv_bipush (v := 41) C.1 C.2.1 dX9_next_185 (by decide) ?_
                  refine lv_icmp_ne (tgt := 194) C.1 C.2.1 dX9_next_187 (by decide) (fun c59 => ?_) (fun c59 => ?_)
                  · skip
                    have c59 : j33.toInt ≠ 41 := i_eqF (X := j33.toInt) (Y := 41) rfl rfl c59
                    refine lv_iconst (v := 1) C.1 C.2.1 dX9_next_194 (by decide) ?_
                    exact J56 1  (by decide) _ _ _ hw (lv_sub hl [0, 1] rfl)
                  · skip
                    have c59 : j33.toInt = 41 := i_eqT (X := j33.toInt) (Y := 41) rfl rfl c59
                    exfalso; omega
              · skip
                have c49 : 59 ≤ j33.toInt := i_ltF (X := j33.toInt) (Y := 59) rfl rfl c49
                refine lv_iload_n C.1 C.2.1 dX9_next_172 rfl (lv_at hl 0 rfl) ?_
                refine lv_bipush (v := 62) C.1 C.2.1 dX9_next_173 (by decide) ?_
                refine lv_icmp_le (tgt := 190) C.1 C.2.1 dX9_next_175 (by decide) (fun c60 => ?_) (fun c60 => ?_)
                · skip
                  have c60 : j33.toInt ≤ 62 := i_leT (X := j33.toInt) (Y := 62) rfl rfl c60
                  refine lv_iconst (v := 5) C.1 C.2.1 dX9_next_190 (by decide) ?_
                  refine lv_goto (tgt := 195) C.1 C.2.1 dX9_next_191 (by decide) ?_
                  exact J56 5  (by decide) _ _ _ hw (lv_sub hl [0, 1] rfl)
                · skip
                  have c60 : 62 < j33.toInt := i_leF (X := j33.toInt) (Y := 62) rfl rfl c60
                  refine lv_iload_n C.1 C.2.1 dX9_next_178 rfl (lv_at hl 0 rfl) ?_
                  refine lv_bipush (v := 40) C.1 C.2.1 dX9_next_179 (by decide) ?_
                  refine lv_icmp_eq (tgt := 190) C.1 C.2.1 dX9_next_181 (by decide) (fun c61 => ?_) (fun c61 => ?_)
                  · skip
                    have c61 : j33.toInt = 40 := i_eqT (X := j33.toInt) (Y := 40) rfl rfl c61
                    exfalso; omega
                  · skip
                    have c61 : j33.toInt ≠ 40 := i_eqF (X := j33.toInt) (Y := 40) rfl rfl c61
                    refine lv_iload_n C.1 C.2.1 dX9_next_184 rfl (lv_at hl 0 rfl) ?_
                    refine lv_bipush (v := 41) C.1 C.2.1 dX9_next_185 (by decide) ?_
                    refine lv_icmp_ne (tgt := 194) C.1 C.2.1 dX9_next_187 (by decide) (fun c62 => ?_) (fun c62 => ?_)
                    · skip
                      have c62 : j33.toInt ≠ 41 := i_eqF (X := j33.toInt) (Y := 41) rfl rfl c62
                      refine lv_iconst (v := 1) C.1 C.2.1 dX9_next_194 (by decide) ?_
                      exact J56 1  (by decide) _ _ _ hw (lv_sub hl [0, 1] rfl)
                    · skip
                      have c62 : j33.toInt = 41 := i_eqT (X := j33.toInt) (Y := 41) rfl rfl c62
                      exfalso; omega
            · skip
              have c48 : j33.toInt ≤ 57 := i_ltF (X := 57) (Y := j33.toInt) rfl rfl c48
              refine lv_aload_n C.1 C.2.1 dX9_next_158 rfl (lv_at hl 1 rfl) ?_
              refine x_callvV (As := []) (rest := []) (wr := []) C hw (s_X9_readRun qt qt_keyCodes qt_bytes qt_size qt_most j34 qt_kind j34 0 0 (-1) qt_fault qt_faultPlace qt_keyCodes_c qt_bytes_c (by omega)) mwX9_readRun kw534 [1, 0, 2] [] rfl rfl rfl rfl (by decide) 0 rfl rfl rfl rfl hl.1 rfl (Nat.le_of_ble_eq_true rfl) ⟨(Nat.le_of_ble_eq_true rfl), (Nat.le_of_ble_eq_true rfl)⟩ ⟨(Nat.le_of_ble_eq_true rfl), (Nat.le_of_ble_eq_true rfl)⟩ dX9_next_159 (fun  u9 H locs hp9 hw => ?_)
              obtain ⟨x63, x64, x65, x66, x67, rfl, hf68⟩ := hp9
              have hw : Wd G s A [(qt, .inr (8, [.ref qt_keyCodes, .ref qt_bytes, .int qt_size, .int qt_most, .int x63, .int x64, .int j34, .int x65, .long x66, .int x67, .int qt_fault, .int qt_faultPlace])), (qt_keyCodes, eJ G 27 qt_keyCodes_c), (qt_bytes, eB G 940 qt_bytes_c)] H _ := hw
              refine lv_goto (tgt := 213) C.1 C.2.1 dX9_next_162 (by decide) ?_
              exact x_retvQ hQ B hw ⟨x63, x64, j34, x65, x66, x67, rfl, (by omega)⟩ (Nat.le_of_ble_eq_true rfl) (Nat.le_of_ble_eq_true rfl) dX9_next_213
        · skip
          have c38 : 97 ≤ j33.toInt := i_ltF (X := j33.toInt) (Y := 97) rfl rfl c38
          refine lv_iload_n C.1 C.2.1 dX9_next_140 rfl (lv_at hl 0 rfl) ?_
          refine lv_bipush (v := 122) C.1 C.2.1 dX9_next_141 (by decide) ?_
          refine lv_icmp_le (tgt := 158) C.1 C.2.1 dX9_next_143 (by decide) (fun c69 => ?_) (fun c69 => ?_)
          · skip
            have c69 : j33.toInt ≤ 122 := i_leT (X := j33.toInt) (Y := 122) rfl rfl c69
            refine lv_aload_n C.1 C.2.1 dX9_next_158 rfl (lv_at hl 1 rfl) ?_
            refine x_callvV (As := []) (rest := []) (wr := []) C hw (s_X9_readRun qt qt_keyCodes qt_bytes qt_size qt_most j34 qt_kind j34 0 0 (-1) qt_fault qt_faultPlace qt_keyCodes_c qt_bytes_c (by omega)) mwX9_readRun kw534 [1, 0, 2] [] rfl rfl rfl rfl (by decide) 0 rfl rfl rfl rfl hl.1 rfl (Nat.le_of_ble_eq_true rfl) ⟨(Nat.le_of_ble_eq_true rfl), (Nat.le_of_ble_eq_true rfl)⟩ ⟨(Nat.le_of_ble_eq_true rfl), (Nat.le_of_ble_eq_true rfl)⟩ dX9_next_159 (fun  u9 H locs hp9 hw => ?_)
            obtain ⟨x70, x71, x72, x73, x74, rfl, hf75⟩ := hp9
            have hw : Wd G s A [(qt, .inr (8, [.ref qt_keyCodes, .ref qt_bytes, .int qt_size, .int qt_most, .int x70, .int x71, .int j34, .int x72, .long x73, .int x74, .int qt_fault, .int qt_faultPlace])), (qt_keyCodes, eJ G 27 qt_keyCodes_c), (qt_bytes, eB G 940 qt_bytes_c)] H _ := hw
            refine lv_goto (tgt := 213) C.1 C.2.1 dX9_next_162 (by decide) ?_
            exact x_retvQ hQ B hw ⟨x70, x71, j34, x72, x73, x74, rfl, (by omega)⟩ (Nat.le_of_ble_eq_true rfl) (Nat.le_of_ble_eq_true rfl) dX9_next_213
          · skip
            have c69 : 122 < j33.toInt := i_leF (X := j33.toInt) (Y := 122) rfl rfl c69
            refine lv_iload_n C.1 C.2.1 dX9_next_146 rfl (lv_at hl 0 rfl) ?_
            refine lv_bipush (v := 48) C.1 C.2.1 dX9_next_147 (by decide) ?_
            refine lv_icmp_lt (tgt := 165) C.1 C.2.1 dX9_next_149 (by decide) (fun c76 => ?_) (fun c76 => ?_)
            · skip
              have c76 : j33.toInt < 48 := i_ltT (X := j33.toInt) (Y := 48) rfl rfl c76
              exfalso; omega
            · skip
              have c76 : 48 ≤ j33.toInt := i_ltF (X := j33.toInt) (Y := 48) rfl rfl c76
              refine lv_iload_n C.1 C.2.1 dX9_next_152 rfl (lv_at hl 0 rfl) ?_
              refine lv_bipush (v := 57) C.1 C.2.1 dX9_next_153 (by decide) ?_
              refine lv_icmp_gt (tgt := 165) C.1 C.2.1 dX9_next_155 (by decide) (fun c77 => ?_) (fun c77 => ?_)
              · skip
                have c77 : 57 < j33.toInt := i_ltT (X := 57) (Y := j33.toInt) rfl rfl c77
                refine lv_aload_n C.1 C.2.1 dX9_next_165 rfl (lv_at hl 1 rfl) ?_
                refine lv_iload_n C.1 C.2.1 dX9_next_166 rfl (lv_at hl 0 rfl) ?_
                refine lv_bipush (v := 59) C.1 C.2.1 dX9_next_167 (by decide) ?_
                refine lv_icmp_lt (tgt := 178) C.1 C.2.1 dX9_next_169 (by decide) (fun c78 => ?_) (fun c78 => ?_)
                · skip
                  have c78 : j33.toInt < 59 := i_ltT (X := j33.toInt) (Y := 59) rfl rfl c78
                  exfalso; omega
                · skip
                  have c78 : 59 ≤ j33.toInt := i_ltF (X := j33.toInt) (Y := 59) rfl rfl c78
                  refine lv_iload_n C.1 C.2.1 dX9_next_172 rfl (lv_at hl 0 rfl) ?_
                  refine lv_bipush (v := 62) C.1 C.2.1 dX9_next_173 (by decide) ?_
                  refine lv_icmp_le (tgt := 190) C.1 C.2.1 dX9_next_175 (by decide) (fun c82 => ?_) (fun c82 => ?_)
                  · skip
                    have c82 : j33.toInt ≤ 62 := i_leT (X := j33.toInt) (Y := 62) rfl rfl c82
                    exfalso; omega
                  · skip
                    have c82 : 62 < j33.toInt := i_leF (X := j33.toInt) (Y := 62) rfl rfl c82
                    refine lv_iload_n C.1 C.2.1 dX9_next_178 rfl (lv_at hl 0 rfl) ?_
                    refine lv_bipush (v := 40) C.1 C.2.1 dX9_next_179 (by decide) ?_
                    refine lv_icmp_eq (tgt := 190) C.1 C.2.1 dX9_next_181 (by decide) (fun c85 => ?_) (fun c85 => ?_)
                    · skip
                      have c85 : j33.toInt = 40 := i_eqT (X := j33.toInt) (Y := 40) rfl rfl c85
                      exfalso; omega
                    · skip
                      have c85 : j33.toInt ≠ 40 := i_eqF (X := j33.toInt) (Y := 40) rfl rfl c85
                      refine lv_iload_n C.1 C.2.1 dX9_next_184 rfl (lv_at hl 0 rfl) ?_
                      refine lv_bipush (v := 41) C.1 C.2.1 dX9_next_185 (by decide) ?_
                      refine lv_icmp_ne (tgt := 194) C.1 C.2.1 dX9_next_187 (by decide) (fun c87 => ?_) (fun c87 => ?_)
                      · skip
                        have c87 : j33.toInt ≠ 41 := i_eqF (X := j33.toInt) (Y := 41) rfl rfl c87
                        refine lv_iconst (v := 1) C.1 C.2.1 dX9_next_194 (by decide) ?_
                        refine x_put (w' := [(qt_keyCodes, eJ G 27 qt_keyCodes_c), (qt, .inr (8, [.ref qt_keyCodes, .ref qt_bytes, .int qt_size, .int qt_most, .int j34, .int 1, .int j34, .int 0, .long 0, .int (-1), .int qt_fault, .int qt_faultPlace])), (qt_bytes, eB G 940 qt_bytes_c)]) C hw iwX9 tyX9_ok nmX9 8 rfl 1 rfl 5 (by decide) kw97 rfl rfl rfl (Nat.le_of_ble_eq_true rfl) rfl dX9_next_195 (fun H locs hw => ?_)
                        refine lv_aload_n C.1 C.2.1 dX9_next_198 rfl (lv_at hl 1 rfl) ?_
                        refine lv_iload_n C.1 C.2.1 dX9_next_199 rfl (lv_at hl 0 rfl) ?_
                        refine x_put (w' := [(qt_keyCodes, eJ G 27 qt_keyCodes_c), (qt, .inr (8, [.ref qt_keyCodes, .ref qt_bytes, .int qt_size, .int qt_most, .int j34, .int 1, .int j34, .int j33, .long 0, .int (-1), .int qt_fault, .int qt_faultPlace])), (qt_bytes, eB G 940 qt_bytes_c)]) C hw iwX9 tyX9_ok nmX9 8 rfl 1 rfl 7 (by decide) kw101 rfl rfl rfl (Nat.le_of_ble_eq_true rfl) rfl dX9_next_200 (fun H locs hw => ?_)
                        refine lv_aload_n C.1 C.2.1 dX9_next_203 rfl (lv_at hl 1 rfl) ?_
                        refine lv_dup C.1 C.2.1 dX9_next_204 rfl ?_
                        refine x_get C hw iwX9 8 rfl 1 rfl 4 (by decide) kw93 rfl dX9_next_205 ?_
                        refine lv_iconst (v := 1) C.1 C.2.1 dX9_next_208 (by decide) ?_
                        refine lv_iadd C.1 C.2.1 dX9_next_209 (x_genP (fun z : Int32 => z.toInt = j34.toInt + 1) (i_add (X := j34.toInt) (Y := 1) rfl rfl (by omega) (by omega)) (fun v88 hv88 => ?_))
                        refine x_put (w' := [(qt_keyCodes, eJ G 27 qt_keyCodes_c), (qt, .inr (8, [.ref qt_keyCodes, .ref qt_bytes, .int qt_size, .int qt_most, .int v88, .int 1, .int j34, .int j33, .long 0, .int (-1), .int qt_fault, .int qt_faultPlace])), (qt_bytes, eB G 940 qt_bytes_c)]) C hw iwX9 tyX9_ok nmX9 8 rfl 1 rfl 4 (by decide) kw93 rfl rfl rfl (Nat.le_of_ble_eq_true rfl) rfl dX9_next_210 (fun H locs hw => ?_)
                        have hw := hw.sub (w' := [(qt, .inr (8, [.ref qt_keyCodes, .ref qt_bytes, .int qt_size, .int qt_most, .int v88, .int 1, .int j34, .int j33, .long 0, .int (-1), .int qt_fault, .int qt_faultPlace])), (qt_keyCodes, eJ G 27 qt_keyCodes_c), (qt_bytes, eB G 940 qt_bytes_c)]) [1, 0, 2] rfl rfl
                        exact x_retvQ hQ B hw ⟨v88, 1, j34, j33, 0, (-1), rfl, (by decide)⟩ (Nat.le_of_ble_eq_true rfl) (Nat.le_of_ble_eq_true rfl) dX9_next_213
                      · skip
                        have c87 : j33.toInt = 41 := i_eqT (X := j33.toInt) (Y := 41) rfl rfl c87
                        exfalso; omega
              · skip
                have c77 : j33.toInt ≤ 57 := i_ltF (X := 57) (Y := j33.toInt) rfl rfl c77
                exfalso; omega
      · skip
        have c37 : qt_size.toInt ≤ j34.toInt := i_ltF (X := j34.toInt) (Y := qt_size.toInt) rfl rfl c37
        have bc37_j34 := i_bd j34
        refine lv_aload_n C.1 C.2.1 dX9_next_126 rfl (lv_at hl 1 rfl) ?_
        refine lv_iconst (v := 0) C.1 C.2.1 dX9_next_127 (by decide) ?_
        refine x_put (w' := [(qt_keyCodes, eJ G 27 qt_keyCodes_c), (qt, .inr (8, [.ref qt_keyCodes, .ref qt_bytes, .int qt_size, .int qt_most, .int j34, .int 0, .int j34, .int 0, .long 0, .int (-1), .int qt_fault, .int qt_faultPlace])), (qt_bytes, eB G 940 qt_bytes_c)]) C hw iwX9 tyX9_ok nmX9 8 rfl 1 rfl 5 (by decide) kw97 rfl rfl rfl (Nat.le_of_ble_eq_true rfl) rfl dX9_next_128 (fun H locs hw => ?_)
        refine lv_goto (tgt := 213) C.1 C.2.1 dX9_next_131 (by decide) ?_
        have hw := hw.sub (w' := [(qt, .inr (8, [.ref qt_keyCodes, .ref qt_bytes, .int qt_size, .int qt_most, .int j34, .int 0, .int j34, .int 0, .long 0, .int (-1), .int qt_fault, .int qt_faultPlace])), (qt_keyCodes, eJ G 27 qt_keyCodes_c), (qt_bytes, eB G 940 qt_bytes_c)]) [1, 0, 2] rfl rfl
        exact x_retvQ hQ B hw ⟨j34, 0, j34, 0, 0, (-1), rfl, (by decide)⟩ (Nat.le_of_ble_eq_true rfl) (Nat.le_of_ble_eq_true rfl) dX9_next_213
    · skip
      have c36 : qt_most.toInt < qt_size.toInt := i_leF (X := qt_size.toInt) (Y := qt_most.toInt) rfl rfl c36
      have bc36_qt_most := i_bd qt_most
      refine lv_aload_n C.1 C.2.1 dX9_next_88 rfl (lv_at hl 1 rfl) ?_
      refine x_get C hw iwX9 8 rfl 1 rfl 4 (by decide) kw93 rfl dX9_next_89 ?_
      refine lv_aload_n C.1 C.2.1 dX9_next_92 rfl (lv_at hl 1 rfl) ?_
      refine x_get C hw iwX9 8 rfl 1 rfl 3 (by decide) kw92 rfl dX9_next_93 ?_
      refine lv_icmp_lt (tgt := 115) C.1 C.2.1 dX9_next_96 (by decide) (fun c89 => ?_) (fun c89 => ?_)
      · skip
        have c89 : j34.toInt < qt_most.toInt := i_ltT (X := j34.toInt) (Y := qt_most.toInt) rfl rfl c89
        have bc89_j34 := i_bd j34
        have bc89_qt_most := i_bd qt_most
        refine lv_aload_n C.1 C.2.1 dX9_next_115 rfl (lv_at hl 1 rfl) ?_
        refine x_get C hw iwX9 8 rfl 1 rfl 4 (by decide) kw93 rfl dX9_next_116 ?_
        refine lv_aload_n C.1 C.2.1 dX9_next_119 rfl (lv_at hl 1 rfl) ?_
        refine x_get C hw iwX9 8 rfl 1 rfl 2 (by decide) kw91 rfl dX9_next_120 ?_
        refine lv_icmp_lt (tgt := 134) C.1 C.2.1 dX9_next_123 (by decide) (fun c90 => ?_) (fun c90 => ?_)
        · skip
          have c90 : j34.toInt < qt_size.toInt := i_ltT (X := j34.toInt) (Y := qt_size.toInt) rfl rfl c90
          have bc90_j34 := i_bd j34
          refine lv_iload_n C.1 C.2.1 dX9_next_134 rfl (lv_at hl 0 rfl) ?_
          refine lv_bipush (v := 97) C.1 C.2.1 dX9_next_135 (by decide) ?_
          refine lv_icmp_lt (tgt := 146) C.1 C.2.1 dX9_next_137 (by decide) (fun c91 => ?_) (fun c91 => ?_)
          · skip
            have c91 : j33.toInt < 97 := i_ltT (X := j33.toInt) (Y := 97) rfl rfl c91
            refine lv_iload_n C.1 C.2.1 dX9_next_146 rfl (lv_at hl 0 rfl) ?_
            refine lv_bipush (v := 48) C.1 C.2.1 dX9_next_147 (by decide) ?_
            refine lv_icmp_lt (tgt := 165) C.1 C.2.1 dX9_next_149 (by decide) (fun c92 => ?_) (fun c92 => ?_)
            · skip
              have c92 : j33.toInt < 48 := i_ltT (X := j33.toInt) (Y := 48) rfl rfl c92
              refine lv_aload_n C.1 C.2.1 dX9_next_165 rfl (lv_at hl 1 rfl) ?_
              refine lv_iload_n C.1 C.2.1 dX9_next_166 rfl (lv_at hl 0 rfl) ?_
              refine lv_bipush (v := 59) C.1 C.2.1 dX9_next_167 (by decide) ?_
              have J97 : ∀ (j96 : Int32), (1 ≤ j96.toInt ∧ j96.toInt ≤ 5) → ∀ (H : Heap) (locs : List Loc) (ls : Array Slot), Wd G s A [(qt_keyCodes, eJ G 27 qt_keyCodes_c), (qt, .inr (8, [.ref qt_keyCodes, .ref qt_bytes, .int qt_size, .int qt_most, .int j34, .int qt_kind, .int j34, .int 0, .long 0, .int (-1), .int qt_fault, .int qt_faultPlace])), (qt_bytes, eB G 940 qt_bytes_c)] H locs → lv_has ls 2 [(1, .int j33), (0, .ref qt)] → W p l e (rmD 2 0 0) s m args below meth c H locs 0 0 Q (F0 m 195 ls [.int j96, .ref qt]) := by
                intro j96 hJ97_0 H locs ls hw hl
                refine x_put (w' := [(qt_keyCodes, eJ G 27 qt_keyCodes_c), (qt, .inr (8, [.ref qt_keyCodes, .ref qt_bytes, .int qt_size, .int qt_most, .int j34, .int j96, .int j34, .int 0, .long 0, .int (-1), .int qt_fault, .int qt_faultPlace])), (qt_bytes, eB G 940 qt_bytes_c)]) C hw iwX9 tyX9_ok nmX9 8 rfl 1 rfl 5 (by decide) kw97 rfl rfl rfl (Nat.le_of_ble_eq_true rfl) rfl dX9_next_195 (fun H locs hw => ?_)
                refine lv_aload_n C.1 C.2.1 dX9_next_198 rfl (lv_at hl 1 rfl) ?_
                refine lv_iload_n C.1 C.2.1 dX9_next_199 rfl (lv_at hl 0 rfl) ?_
                refine x_put (w' := [(qt_keyCodes, eJ G 27 qt_keyCodes_c), (qt, .inr (8, [.ref qt_keyCodes, .ref qt_bytes, .int qt_size, .int qt_most, .int j34, .int j96, .int j34, .int j33, .long 0, .int (-1), .int qt_fault, .int qt_faultPlace])), (qt_bytes, eB G 940 qt_bytes_c)]) C hw iwX9 tyX9_ok nmX9 8 rfl 1 rfl 7 (by decide) kw101 rfl rfl rfl (Nat.le_of_ble_eq_true rfl) rfl dX9_next_200 (fun H locs hw => ?_)
                refine lv_aload_n C.1 C.2.1 dX9_next_203 rfl (lv_at hl 1 rfl) ?_
                refine lv_dup C.1 C.2.1 dX9_next_204 rfl ?_
                refine x_get C hw iwX9 8 rfl 1 rfl 4 (by decide) kw93 rfl dX9_next_205 ?_
                refine lv_iconst (v := 1) C.1 C.2.1 dX9_next_208 (by decide) ?_
                refine lv_iadd C.1 C.2.1 dX9_next_209 (x_genP (fun z : Int32 => z.toInt = j34.toInt + 1) (i_add (X := j34.toInt) (Y := 1) rfl rfl (by omega) (by omega)) (fun v98 hv98 => ?_))
                refine x_put (w' := [(qt_keyCodes, eJ G 27 qt_keyCodes_c), (qt, .inr (8, [.ref qt_keyCodes, .ref qt_bytes, .int qt_size, .int qt_most, .int v98, .int j96, .int j34, .int j33, .long 0, .int (-1), .int qt_fault, .int qt_faultPlace])), (qt_bytes, eB G 940 qt_bytes_c)]) C hw iwX9 tyX9_ok nmX9 8 rfl 1 rfl 4 (by decide) kw93 rfl rfl rfl (Nat.le_of_ble_eq_true rfl) rfl dX9_next_210 (fun H locs hw => ?_)
                have hw := hw.sub (w' := [(qt, .inr (8, [.ref qt_keyCodes, .ref qt_bytes, .int qt_size, .int qt_most, .int v98, .int j96, .int j34, .int j33, .long 0, .int (-1), .int qt_fault, .int qt_faultPlace])), (qt_keyCodes, eJ G 27 qt_keyCodes_c), (qt_bytes, eB G 940 qt_bytes_c)]) [1, 0, 2] rfl rfl
                exact x_retvQ hQ B hw ⟨v98, j96, j34, j33, 0, (-1), rfl, (by omega)⟩ (Nat.le_of_ble_eq_true rfl) (Nat.le_of_ble_eq_true rfl) dX9_next_213
              refine lv_icmp_lt (tgt := 178) C.1 C.2.1 dX9_next_169 (by decide) (fun c93 => ?_) (fun c93 => ?_)
              · skip
                have c93 : j33.toInt < 59 := i_ltT (X := j33.toInt) (Y := 59) rfl rfl c93
                refine lv_iload_n C.1 C.2.1 dX9_next_178 rfl (lv_at hl 0 rfl) ?_
                refine lv_bipush (v := 40) C.1 C.2.1 dX9_next_179 (by decide) ?_
                refine lv_icmp_eq (tgt := 190) C.1 C.2.1 dX9_next_181 (by decide) (fun c99 => ?_) (fun c99 => ?_)
                · skip
                  have c99 : j33.toInt = 40 := i_eqT (X := j33.toInt) (Y := 40) rfl rfl c99
                  refine lv_iconst (v := 5) C.1 C.2.1 dX9_next_190 (by decide) ?_
                  refine lv_goto (tgt := 195) C.1 C.2.1 dX9_next_191 (by decide) ?_
                  exact J97 5  (by decide) _ _ _ hw (lv_sub hl [0, 1] rfl)
                · skip
                  have c99 : j33.toInt ≠ 40 := i_eqF (X := j33.toInt) (Y := 40) rfl rfl c99
                  refine lv_iload_n C.1 C.2.1 dX9_next_184 rfl (lv_at hl 0 rfl) ?_
                  refine lv_bipush (v := 41) C.1 C.2.1 dX9_next_185 (by decide) ?_
                  refine lv_icmp_ne (tgt := 194) C.1 C.2.1 dX9_next_187 (by decide) (fun c100 => ?_) (fun c100 => ?_)
                  · skip
                    have c100 : j33.toInt ≠ 41 := i_eqF (X := j33.toInt) (Y := 41) rfl rfl c100
                    refine lv_iconst (v := 1) C.1 C.2.1 dX9_next_194 (by decide) ?_
                    exact J97 1  (by decide) _ _ _ hw (lv_sub hl [0, 1] rfl)
                  · skip
                    have c100 : j33.toInt = 41 := i_eqT (X := j33.toInt) (Y := 41) rfl rfl c100
                    refine lv_iconst (v := 5) C.1 C.2.1 dX9_next_190 (by decide) ?_
                    refine lv_goto (tgt := 195) C.1 C.2.1 dX9_next_191 (by decide) ?_
                    exact J97 5  (by decide) _ _ _ hw (lv_sub hl [0, 1] rfl)
              · skip
                have c93 : 59 ≤ j33.toInt := i_ltF (X := j33.toInt) (Y := 59) rfl rfl c93
                exfalso; omega
            · skip
              have c92 : 48 ≤ j33.toInt := i_ltF (X := j33.toInt) (Y := 48) rfl rfl c92
              refine lv_iload_n C.1 C.2.1 dX9_next_152 rfl (lv_at hl 0 rfl) ?_
              refine lv_bipush (v := 57) C.1 C.2.1 dX9_next_153 (by decide) ?_
              refine lv_icmp_gt (tgt := 165) C.1 C.2.1 dX9_next_155 (by decide) (fun c101 => ?_) (fun c101 => ?_)
              · skip
                have c101 : 57 < j33.toInt := i_ltT (X := 57) (Y := j33.toInt) rfl rfl c101
                refine lv_aload_n C.1 C.2.1 dX9_next_165 rfl (lv_at hl 1 rfl) ?_
                refine lv_iload_n C.1 C.2.1 dX9_next_166 rfl (lv_at hl 0 rfl) ?_
                refine lv_bipush (v := 59) C.1 C.2.1 dX9_next_167 (by decide) ?_
                have J109 : ∀ (j108 : Int32), (1 ≤ j108.toInt ∧ j108.toInt ≤ 5) → ∀ (H : Heap) (locs : List Loc) (ls : Array Slot), Wd G s A [(qt_keyCodes, eJ G 27 qt_keyCodes_c), (qt, .inr (8, [.ref qt_keyCodes, .ref qt_bytes, .int qt_size, .int qt_most, .int j34, .int qt_kind, .int j34, .int 0, .long 0, .int (-1), .int qt_fault, .int qt_faultPlace])), (qt_bytes, eB G 940 qt_bytes_c)] H locs → lv_has ls 2 [(1, .int j33), (0, .ref qt)] → W p l e (rmD 2 0 0) s m args below meth c H locs 0 0 Q (F0 m 195 ls [.int j108, .ref qt]) := by
                  intro j108 hJ109_0 H locs ls hw hl
                  refine x_put (w' := [(qt_keyCodes, eJ G 27 qt_keyCodes_c), (qt, .inr (8, [.ref qt_keyCodes, .ref qt_bytes, .int qt_size, .int qt_most, .int j34, .int j108, .int j34, .int 0, .long 0, .int (-1), .int qt_fault, .int qt_faultPlace])), (qt_bytes, eB G 940 qt_bytes_c)]) C hw iwX9 tyX9_ok nmX9 8 rfl 1 rfl 5 (by decide) kw97 rfl rfl rfl (Nat.le_of_ble_eq_true rfl) rfl dX9_next_195 (fun H locs hw => ?_)
                  refine lv_aload_n C.1 C.2.1 dX9_next_198 rfl (lv_at hl 1 rfl) ?_
                  refine lv_iload_n C.1 C.2.1 dX9_next_199 rfl (lv_at hl 0 rfl) ?_
                  refine x_put (w' := [(qt_keyCodes, eJ G 27 qt_keyCodes_c), (qt, .inr (8, [.ref qt_keyCodes, .ref qt_bytes, .int qt_size, .int qt_most, .int j34, .int j108, .int j34, .int j33, .long 0, .int (-1), .int qt_fault, .int qt_faultPlace])), (qt_bytes, eB G 940 qt_bytes_c)]) C hw iwX9 tyX9_ok nmX9 8 rfl 1 rfl 7 (by decide) kw101 rfl rfl rfl (Nat.le_of_ble_eq_true rfl) rfl dX9_next_200 (fun H locs hw => ?_)
                  refine lv_aload_n C.1 C.2.1 dX9_next_203 rfl (lv_at hl 1 rfl) ?_
                  refine lv_dup C.1 C.2.1 dX9_next_204 rfl ?_
                  refine x_get C hw iwX9 8 rfl 1 rfl 4 (by decide) kw93 rfl dX9_next_205 ?_
                  refine lv_iconst (v := 1) C.1 C.2.1 dX9_next_208 (by decide) ?_
                  refine lv_iadd C.1 C.2.1 dX9_next_209 (x_genP (fun z : Int32 => z.toInt = j34.toInt + 1) (i_add (X := j34.toInt) (Y := 1) rfl rfl (by omega) (by omega)) (fun v110 hv110 => ?_))
                  refine x_put (w' := [(qt_keyCodes, eJ G 27 qt_keyCodes_c), (qt, .inr (8, [.ref qt_keyCodes, .ref qt_bytes, .int qt_size, .int qt_most, .int v110, .int j108, .int j34, .int j33, .long 0, .int (-1), .int qt_fault, .int qt_faultPlace])), (qt_bytes, eB G 940 qt_bytes_c)]) C hw iwX9 tyX9_ok nmX9 8 rfl 1 rfl 4 (by decide) kw93 rfl rfl rfl (Nat.le_of_ble_eq_true rfl) rfl dX9_next_210 (fun H locs hw => ?_)
                  have hw := hw.sub (w' := [(qt, .inr (8, [.ref qt_keyCodes, .ref qt_bytes, .int qt_size, .int qt_most, .int v110, .int j108, .int j34, .int j33, .long 0, .int (-1), .int qt_fault, .int qt_faultPlace])), (qt_keyCodes, eJ G 27 qt_keyCodes_c), (qt_bytes, eB G 940 qt_bytes_c)]) [1, 0, 2] rfl rfl
                  exact x_retvQ hQ B hw ⟨v110, j108, j34, j33, 0, (-1), rfl, (by omega)⟩ (Nat.le_of_ble_eq_true rfl) (Nat.le_of_ble_eq_true rfl) dX9_next_213
                refine lv_icmp_lt (tgt := 178) C.1 C.2.1 dX9_next_169 (by decide) (fun c102 => ?_) (fun c102 => ?_)
                · skip
                  have c102 : j33.toInt < 59 := i_ltT (X := j33.toInt) (Y := 59) rfl rfl c102
                  refine lv_iload_n C.1 C.2.1 dX9_next_178 rfl (lv_at hl 0 rfl) ?_
                  refine lv_bipush (v := 40) C.1 C.2.1 dX9_next_179 (by decide) ?_
                  refine lv_icmp_eq (tgt := 190) C.1 C.2.1 dX9_next_181 (by decide) (fun c111 => ?_) (fun c111 => ?_)
                  · skip
                    have c111 : j33.toInt = 40 := i_eqT (X := j33.toInt) (Y := 40) rfl rfl c111
                    exfalso; omega
                  · skip
                    have c111 : j33.toInt ≠ 40 := i_eqF (X := j33.toInt) (Y := 40) rfl rfl c111
                    refine lv_iload_n C.1 C.2.1 dX9_next_184 rfl (lv_at hl 0 rfl) ?_
                    refine lv_bipush (v := 41) C.1 C.2.1 dX9_next_185 (by decide) ?_
                    refine lv_icmp_ne (tgt := 194) C.1 C.2.1 dX9_next_187 (by decide) (fun c112 => ?_) (fun c112 => ?_)
                    · skip
                      have c112 : j33.toInt ≠ 41 := i_eqF (X := j33.toInt) (Y := 41) rfl rfl c112
                      refine lv_iconst (v := 1) C.1 C.2.1 dX9_next_194 (by decide) ?_
                      exact J109 1  (by decide) _ _ _ hw (lv_sub hl [0, 1] rfl)
                    · skip
                      have c112 : j33.toInt = 41 := i_eqT (X := j33.toInt) (Y := 41) rfl rfl c112
                      exfalso; omega
                · skip
                  have c102 : 59 ≤ j33.toInt := i_ltF (X := j33.toInt) (Y := 59) rfl rfl c102
                  refine lv_iload_n C.1 C.2.1 dX9_next_172 rfl (lv_at hl 0 rfl) ?_
                  refine lv_bipush (v := 62) C.1 C.2.1 dX9_next_173 (by decide) ?_
                  refine lv_icmp_le (tgt := 190) C.1 C.2.1 dX9_next_175 (by decide) (fun c113 => ?_) (fun c113 => ?_)
                  · skip
                    have c113 : j33.toInt ≤ 62 := i_leT (X := j33.toInt) (Y := 62) rfl rfl c113
                    refine lv_iconst (v := 5) C.1 C.2.1 dX9_next_190 (by decide) ?_
                    refine lv_goto (tgt := 195) C.1 C.2.1 dX9_next_191 (by decide) ?_
                    exact J109 5  (by decide) _ _ _ hw (lv_sub hl [0, 1] rfl)
                  · skip
                    have c113 : 62 < j33.toInt := i_leF (X := j33.toInt) (Y := 62) rfl rfl c113
                    refine lv_iload_n C.1 C.2.1 dX9_next_178 rfl (lv_at hl 0 rfl) ?_
                    refine lv_bipush (v := 40) C.1 C.2.1 dX9_next_179 (by decide) ?_
                    refine lv_icmp_eq (tgt := 190) C.1 C.2.1 dX9_next_181 (by decide) (fun c114 => ?_) (fun c114 => ?_)
                    · skip
                      have c114 : j33.toInt = 40 := i_eqT (X := j33.toInt) (Y := 40) rfl rfl c114
                      exfalso; omega
                    · skip
                      have c114 : j33.toInt ≠ 40 := i_eqF (X := j33.toInt) (Y := 40) rfl rfl c114
                      refine lv_iload_n C.1 C.2.1 dX9_next_184 rfl (lv_at hl 0 rfl) ?_
                      refine lv_bipush (v := 41) C.1 C.2.1 dX9_next_185 (by decide) ?_
                      refine lv_icmp_ne (tgt := 194) C.1 C.2.1 dX9_next_187 (by decide) (fun c115 => ?_) (fun c115 => ?_)
                      · skip
                        have c115 : j33.toInt ≠ 41 := i_eqF (X := j33.toInt) (Y := 41) rfl rfl c115
                        refine lv_iconst (v := 1) C.1 C.2.1 dX9_next_194 (by decide) ?_
                        exact J109 1  (by decide) _ _ _ hw (lv_sub hl [0, 1] rfl)
                      · skip
                        have c115 : j33.toInt = 41 := i_eqT (X := j33.toInt) (Y := 41) rfl rfl c115
                        exfalso; omega
              · skip
                have c101 : j33.toInt ≤ 57 := i_ltF (X := 57) (Y := j33.toInt) rfl rfl c101
                refine lv_aload_n C.1 C.2.1 dX9_next_158 rfl (lv_at hl 1 rfl) ?_
                refine x_callvV (As := []) (rest := []) (wr := []) C hw (s_X9_readRun qt qt_keyCodes qt_bytes qt_size qt_most j34 qt_kind j34 0 0 (-1) qt_fault qt_faultPlace qt_keyCodes_c qt_bytes_c (by omega)) mwX9_readRun kw534 [1, 0, 2] [] rfl rfl rfl rfl (by decide) 0 rfl rfl rfl rfl hl.1 rfl (Nat.le_of_ble_eq_true rfl) ⟨(Nat.le_of_ble_eq_true rfl), (Nat.le_of_ble_eq_true rfl)⟩ ⟨(Nat.le_of_ble_eq_true rfl), (Nat.le_of_ble_eq_true rfl)⟩ dX9_next_159 (fun  u9 H locs hp9 hw => ?_)
                obtain ⟨x116, x117, x118, x119, x120, rfl, hf121⟩ := hp9
                have hw : Wd G s A [(qt, .inr (8, [.ref qt_keyCodes, .ref qt_bytes, .int qt_size, .int qt_most, .int x116, .int x117, .int j34, .int x118, .long x119, .int x120, .int qt_fault, .int qt_faultPlace])), (qt_keyCodes, eJ G 27 qt_keyCodes_c), (qt_bytes, eB G 940 qt_bytes_c)] H _ := hw
                refine lv_goto (tgt := 213) C.1 C.2.1 dX9_next_162 (by decide) ?_
                exact x_retvQ hQ B hw ⟨x116, x117, j34, x118, x119, x120, rfl, (by omega)⟩ (Nat.le_of_ble_eq_true rfl) (Nat.le_of_ble_eq_true rfl) dX9_next_213
          · skip
            have c91 : 97 ≤ j33.toInt := i_ltF (X := j33.toInt) (Y := 97) rfl rfl c91
            refine lv_iload_n C.1 C.2.1 dX9_next_140 rfl (lv_at hl 0 rfl) ?_
            refine lv_bipush (v := 122) C.1 C.2.1 dX9_next_141 (by decide) ?_
            refine lv_icmp_le (tgt := 158) C.1 C.2.1 dX9_next_143 (by decide) (fun c122 => ?_) (fun c122 => ?_)
            · skip
              have c122 : j33.toInt ≤ 122 := i_leT (X := j33.toInt) (Y := 122) rfl rfl c122
              refine lv_aload_n C.1 C.2.1 dX9_next_158 rfl (lv_at hl 1 rfl) ?_
              refine x_callvV (As := []) (rest := []) (wr := []) C hw (s_X9_readRun qt qt_keyCodes qt_bytes qt_size qt_most j34 qt_kind j34 0 0 (-1) qt_fault qt_faultPlace qt_keyCodes_c qt_bytes_c (by omega)) mwX9_readRun kw534 [1, 0, 2] [] rfl rfl rfl rfl (by decide) 0 rfl rfl rfl rfl hl.1 rfl (Nat.le_of_ble_eq_true rfl) ⟨(Nat.le_of_ble_eq_true rfl), (Nat.le_of_ble_eq_true rfl)⟩ ⟨(Nat.le_of_ble_eq_true rfl), (Nat.le_of_ble_eq_true rfl)⟩ dX9_next_159 (fun  u9 H locs hp9 hw => ?_)
              obtain ⟨x123, x124, x125, x126, x127, rfl, hf128⟩ := hp9
              have hw : Wd G s A [(qt, .inr (8, [.ref qt_keyCodes, .ref qt_bytes, .int qt_size, .int qt_most, .int x123, .int x124, .int j34, .int x125, .long x126, .int x127, .int qt_fault, .int qt_faultPlace])), (qt_keyCodes, eJ G 27 qt_keyCodes_c), (qt_bytes, eB G 940 qt_bytes_c)] H _ := hw
              refine lv_goto (tgt := 213) C.1 C.2.1 dX9_next_162 (by decide) ?_
              exact x_retvQ hQ B hw ⟨x123, x124, j34, x125, x126, x127, rfl, (by omega)⟩ (Nat.le_of_ble_eq_true rfl) (Nat.le_of_ble_eq_true rfl) dX9_next_213
            · skip
              have c122 : 122 < j33.toInt := i_leF (X := j33.toInt) (Y := 122) rfl rfl c122
              refine lv_iload_n C.1 C.2.1 dX9_next_146 rfl (lv_at hl 0 rfl) ?_
              refine lv_bipush (v := 48) C.1 C.2.1 dX9_next_147 (by decide) ?_
              refine lv_icmp_lt (tgt := 165) C.1 C.2.1 dX9_next_149 (by decide) (fun c129 => ?_) (fun c129 => ?_)
              · skip
                have c129 : j33.toInt < 48 := i_ltT (X := j33.toInt) (Y := 48) rfl rfl c129
                exfalso; omega
              · skip
                have c129 : 48 ≤ j33.toInt := i_ltF (X := j33.toInt) (Y := 48) rfl rfl c129
                refine lv_iload_n C.1 C.2.1 dX9_next_152 rfl (lv_at hl 0 rfl) ?_
                refine lv_bipush (v := 57) C.1 C.2.1 dX9_next_153 (by decide) ?_
                refine lv_icmp_gt (tgt := 165) C.1 C.2.1 dX9_next_155 (by decide) (fun c130 => ?_) (fun c130 => ?_)
                · skip
                  have c130 : 57 < j33.toInt := i_ltT (X := 57) (Y := j33.toInt) rfl rfl c130
                  refine lv_aload_n C.1 C.2.1 dX9_next_165 rfl (lv_at hl 1 rfl) ?_
                  refine lv_iload_n C.1 C.2.1 dX9_next_166 rfl (lv_at hl 0 rfl) ?_
                  refine lv_bipush (v := 59) C.1 C.2.1 dX9_next_167 (by decide) ?_
                  refine lv_icmp_lt (tgt := 178) C.1 C.2.1 dX9_next_169 (by decide) (fun c131 => ?_) (fun c131 => ?_)
                  · skip
                    have c131 : j33.toInt < 59 := i_ltT (X := j33.toInt) (Y := 59) rfl rfl c131
                    exfalso; omega
                  · skip
                    have c131 : 59 ≤ j33.toInt := i_ltF (X := j33.toInt) (Y := 59) rfl rfl c131
                    refine lv_iload_n C.1 C.2.1 dX9_next_172 rfl (lv_at hl 0 rfl) ?_
                    refine lv_bipush (v := 62) C.1 C.2.1 dX9_next_173 (by decide) ?_
                    refine lv_icmp_le (tgt := 190) C.1 C.2.1 dX9_next_175 (by decide) (fun c135 => ?_) (fun c135 => ?_)
                    · skip
                      have c135 : j33.toInt ≤ 62 := i_leT (X := j33.toInt) (Y := 62) rfl rfl c135
                      exfalso; omega
                    · skip
                      have c135 : 62 < j33.toInt := i_leF (X := j33.toInt) (Y := 62) rfl rfl c135
                      refine lv_iload_n C.1 C.2.1 dX9_next_178 rfl (lv_at hl 0 rfl) ?_
                      refine lv_bipush (v := 40) C.1 C.2.1 dX9_next_179 (by decide) ?_
                      refine lv_icmp_eq (tgt := 190) C.1 C.2.1 dX9_next_181 (by decide) (fun c138 => ?_) (fun c138 => ?_)
                      · skip
                        have c138 : j33.toInt = 40 := i_eqT (X := j33.toInt) (Y := 40) rfl rfl c138
                        exfalso; omega
                      · skip
                        have c138 : j33.toInt ≠ 40 := i_eqF (X := j33.toInt) (Y := 40) rfl rfl c138
                        refine lv_iload_n C.1 C.2.1 dX9_next_184 rfl (lv_at hl 0 rfl) ?_
                        refine lv_bipush (v := 41) C.1 C.2.1 dX9_next_185 (by decide) ?_
                        refine lv_icmp_ne (tgt := 194) C.1 C.2.1 dX9_next_187 (by decide) (fun c140 => ?_) (fun c140 => ?_)
                        · skip
                          have c140 : j33.toInt ≠ 41 := i_eqF (X := j33.toInt) (Y := 41) rfl rfl c140
                          refine lv_iconst (v := 1) C.1 C.2.1 dX9_next_194 (by decide) ?_
                          refine x_put (w' := [(qt_keyCodes, eJ G 27 qt_keyCodes_c), (qt, .inr (8, [.ref qt_keyCodes, .ref qt_bytes, .int qt_size, .int qt_most, .int j34, .int 1, .int j34, .int 0, .long 0, .int (-1), .int qt_fault, .int qt_faultPlace])), (qt_bytes, eB G 940 qt_bytes_c)]) C hw iwX9 tyX9_ok nmX9 8 rfl 1 rfl 5 (by decide) kw97 rfl rfl rfl (Nat.le_of_ble_eq_true rfl) rfl dX9_next_195 (fun H locs hw => ?_)
                          refine lv_aload_n C.1 C.2.1 dX9_next_198 rfl (lv_at hl 1 rfl) ?_
                          refine lv_iload_n C.1 C.2.1 dX9_next_199 rfl (lv_at hl 0 rfl) ?_
                          refine x_put (w' := [(qt_keyCodes, eJ G 27 qt_keyCodes_c), (qt, .inr (8, [.ref qt_keyCodes, .ref qt_bytes, .int qt_size, .int qt_most, .int j34, .int 1, .int j34, .int j33, .long 0, .int (-1), .int qt_fault, .int qt_faultPlace])), (qt_bytes, eB G 940 qt_bytes_c)]) C hw iwX9 tyX9_ok nmX9 8 rfl 1 rfl 7 (by decide) kw101 rfl rfl rfl (Nat.le_of_ble_eq_true rfl) rfl dX9_next_200 (fun H locs hw => ?_)
                          refine lv_aload_n C.1 C.2.1 dX9_next_203 rfl (lv_at hl 1 rfl) ?_
                          refine lv_dup C.1 C.2.1 dX9_next_204 rfl ?_
                          refine x_get C hw iwX9 8 rfl 1 rfl 4 (by decide) kw93 rfl dX9_next_205 ?_
                          refine lv_iconst (v := 1) C.1 C.2.1 dX9_next_208 (by decide) ?_
                          refine lv_iadd C.1 C.2.1 dX9_next_209 (x_genP (fun z : Int32 => z.toInt = j34.toInt + 1) (i_add (X := j34.toInt) (Y := 1) rfl rfl (by omega) (by omega)) (fun v141 hv141 => ?_))
                          refine x_put (w' := [(qt_keyCodes, eJ G 27 qt_keyCodes_c), (qt, .inr (8, [.ref qt_keyCodes, .ref qt_bytes, .int qt_size, .int qt_most, .int v141, .int 1, .int j34, .int j33, .long 0, .int (-1), .int qt_fault, .int qt_faultPlace])), (qt_bytes, eB G 940 qt_bytes_c)]) C hw iwX9 tyX9_ok nmX9 8 rfl 1 rfl 4 (by decide) kw93 rfl rfl rfl (Nat.le_of_ble_eq_true rfl) rfl dX9_next_210 (fun H locs hw => ?_)
                          have hw := hw.sub (w' := [(qt, .inr (8, [.ref qt_keyCodes, .ref qt_bytes, .int qt_size, .int qt_most, .int v141, .int 1, .int j34, .int j33, .long 0, .int (-1), .int qt_fault, .int qt_faultPlace])), (qt_keyCodes, eJ G 27 qt_keyCodes_c), (qt_bytes, eB G 940 qt_bytes_c)]) [1, 0, 2] rfl rfl
                          exact x_retvQ hQ B hw ⟨v141, 1, j34, j33, 0, (-1), rfl, (by decide)⟩ (Nat.le_of_ble_eq_true rfl) (Nat.le_of_ble_eq_true rfl) dX9_next_213
                        · skip
                          have c140 : j33.toInt = 41 := i_eqT (X := j33.toInt) (Y := 41) rfl rfl c140
                          exfalso; omega
                · skip
                  have c130 : j33.toInt ≤ 57 := i_ltF (X := 57) (Y := j33.toInt) rfl rfl c130
                  exfalso; omega
        · skip
          have c90 : qt_size.toInt ≤ j34.toInt := i_ltF (X := j34.toInt) (Y := qt_size.toInt) rfl rfl c90
          have bc90_j34 := i_bd j34
          refine lv_aload_n C.1 C.2.1 dX9_next_126 rfl (lv_at hl 1 rfl) ?_
          refine lv_iconst (v := 0) C.1 C.2.1 dX9_next_127 (by decide) ?_
          refine x_put (w' := [(qt_keyCodes, eJ G 27 qt_keyCodes_c), (qt, .inr (8, [.ref qt_keyCodes, .ref qt_bytes, .int qt_size, .int qt_most, .int j34, .int 0, .int j34, .int 0, .long 0, .int (-1), .int qt_fault, .int qt_faultPlace])), (qt_bytes, eB G 940 qt_bytes_c)]) C hw iwX9 tyX9_ok nmX9 8 rfl 1 rfl 5 (by decide) kw97 rfl rfl rfl (Nat.le_of_ble_eq_true rfl) rfl dX9_next_128 (fun H locs hw => ?_)
          refine lv_goto (tgt := 213) C.1 C.2.1 dX9_next_131 (by decide) ?_
          have hw := hw.sub (w' := [(qt, .inr (8, [.ref qt_keyCodes, .ref qt_bytes, .int qt_size, .int qt_most, .int j34, .int 0, .int j34, .int 0, .long 0, .int (-1), .int qt_fault, .int qt_faultPlace])), (qt_keyCodes, eJ G 27 qt_keyCodes_c), (qt_bytes, eB G 940 qt_bytes_c)]) [1, 0, 2] rfl rfl
          exact x_retvQ hQ B hw ⟨j34, 0, j34, 0, 0, (-1), rfl, (by decide)⟩ (Nat.le_of_ble_eq_true rfl) (Nat.le_of_ble_eq_true rfl) dX9_next_213
      · skip
        have c89 : qt_most.toInt ≤ j34.toInt := i_ltF (X := j34.toInt) (Y := qt_most.toInt) rfl rfl c89
        have bc89_j34 := i_bd j34
        have bc89_qt_most := i_bd qt_most
        refine lv_aload_n C.1 C.2.1 dX9_next_99 rfl (lv_at hl 1 rfl) ?_
        refine lv_iconst (v := 1) C.1 C.2.1 dX9_next_100 (by decide) ?_
        refine x_put (w' := [(qt_keyCodes, eJ G 27 qt_keyCodes_c), (qt, .inr (8, [.ref qt_keyCodes, .ref qt_bytes, .int qt_size, .int qt_most, .int j34, .int 1, .int j34, .int 0, .long 0, .int (-1), .int qt_fault, .int qt_faultPlace])), (qt_bytes, eB G 940 qt_bytes_c)]) C hw iwX9 tyX9_ok nmX9 8 rfl 1 rfl 5 (by decide) kw97 rfl rfl rfl (Nat.le_of_ble_eq_true rfl) rfl dX9_next_101 (fun H locs hw => ?_)
        refine lv_aload_n C.1 C.2.1 dX9_next_104 rfl (lv_at hl 1 rfl) ?_
        refine lv_aload_n C.1 C.2.1 dX9_next_105 rfl (lv_at hl 1 rfl) ?_
        refine x_get C hw iwX9 8 rfl 1 rfl 3 (by decide) kw92 rfl dX9_next_106 ?_
        refine x_put (w' := [(qt_keyCodes, eJ G 27 qt_keyCodes_c), (qt, .inr (8, [.ref qt_keyCodes, .ref qt_bytes, .int qt_size, .int qt_most, .int j34, .int 1, .int qt_most, .int 0, .long 0, .int (-1), .int qt_fault, .int qt_faultPlace])), (qt_bytes, eB G 940 qt_bytes_c)]) C hw iwX9 tyX9_ok nmX9 8 rfl 1 rfl 6 (by decide) kw98 rfl rfl rfl (Nat.le_of_ble_eq_true rfl) rfl dX9_next_109 (fun H locs hw => ?_)
        refine lv_goto (tgt := 213) C.1 C.2.1 dX9_next_112 (by decide) ?_
        have hw := hw.sub (w' := [(qt, .inr (8, [.ref qt_keyCodes, .ref qt_bytes, .int qt_size, .int qt_most, .int j34, .int 1, .int qt_most, .int 0, .long 0, .int (-1), .int qt_fault, .int qt_faultPlace])), (qt_keyCodes, eJ G 27 qt_keyCodes_c), (qt_bytes, eB G 940 qt_bytes_c)]) [1, 0, 2] rfl rfl
        exact x_retvQ hQ B hw ⟨j34, 1, qt_most, 0, 0, (-1), rfl, (by decide)⟩ (Nat.le_of_ble_eq_true rfl) (Nat.le_of_ble_eq_true rfl) dX9_next_213
  have loopJ18 : ∀ (n9 : Nat) (j16 : Int32) (j17 : Int32), (2147483647 - j17.toInt).toNat < n9 → (-1 ≤ j16.toInt ∧ j16.toInt ≤ 255) → ∀ (H : Heap) (locs : List Loc) (ls : Array Slot), Wd G s A [(qt_keyCodes, eJ G 27 qt_keyCodes_c), (qt, .inr (8, [.ref qt_keyCodes, .ref qt_bytes, .int qt_size, .int qt_most, .int j17, .int qt_kind, .int qt_place, .int qt_value, .long qt_code, .int qt_key, .int qt_fault, .int qt_faultPlace])), (qt_bytes, eB G 940 qt_bytes_c)] H locs → lv_has ls 2 [(1, .int j16), (0, .ref qt)] → W p l e (rmD 2 0 0) s m args below meth c H locs 0 0 Q (F0 m 9 ls []) := by
    intro n9
    induction n9 with
    | zero => intro j16 j17 h9; exact absurd h9 (Nat.not_lt_zero _)
    | succ n9 ihJ18 =>
      intro j16 j17 h9J18 hJ18_0 H locs ls hw hl
      have hbj17 := i_bd j17
      refine lv_aload_n C.1 C.2.1 dX9_next_9 rfl (lv_at hl 1 rfl) ?_
      refine x_get C hw iwX9 8 rfl 1 rfl 4 (by decide) kw93 rfl dX9_next_10 ?_
      refine lv_aload_n C.1 C.2.1 dX9_next_13 rfl (lv_at hl 1 rfl) ?_
      refine x_get C hw iwX9 8 rfl 1 rfl 2 (by decide) kw91 rfl dX9_next_14 ?_
      refine lv_icmp_ge (tgt := 54) C.1 C.2.1 dX9_next_17 (by decide) (fun c142 => ?_) (fun c142 => ?_)
      · skip
        have c142 : qt_size.toInt ≤ j17.toInt := i_leT (X := qt_size.toInt) (Y := j17.toInt) rfl rfl c142
        have bc142_j17 := i_bd j17
        exact J35 j16 j17  (by omega) _ _ _ hw (lv_sub hl [0, 1] rfl)
      · skip
        have c142 : j17.toInt < qt_size.toInt := i_leF (X := qt_size.toInt) (Y := j17.toInt) rfl rfl c142
        have bc142_j17 := i_bd j17
        refine lv_iload_n C.1 C.2.1 dX9_next_20 rfl (lv_at hl 0 rfl) ?_
        refine lv_bipush (v := 32) C.1 C.2.1 dX9_next_21 (by decide) ?_
        refine lv_icmp_eq (tgt := 32) C.1 C.2.1 dX9_next_23 (by decide) (fun c143 => ?_) (fun c143 => ?_)
        · skip
          have c143 : j16.toInt = 32 := i_eqT (X := j16.toInt) (Y := 32) rfl rfl c143
          refine lv_aload_n C.1 C.2.1 dX9_next_32 rfl (lv_at hl 1 rfl) ?_
          refine lv_dup C.1 C.2.1 dX9_next_33 rfl ?_
          refine x_get C hw iwX9 8 rfl 1 rfl 4 (by decide) kw93 rfl dX9_next_34 ?_
          refine lv_iconst (v := 1) C.1 C.2.1 dX9_next_37 (by decide) ?_
          refine lv_iadd C.1 C.2.1 dX9_next_38 (x_genP (fun z : Int32 => z.toInt = j17.toInt + 1) (i_add (X := j17.toInt) (Y := 1) rfl rfl (by omega) (by omega)) (fun v144 hv144 => ?_))
          refine x_put (w' := [(qt_keyCodes, eJ G 27 qt_keyCodes_c), (qt, .inr (8, [.ref qt_keyCodes, .ref qt_bytes, .int qt_size, .int qt_most, .int v144, .int qt_kind, .int qt_place, .int qt_value, .long qt_code, .int qt_key, .int qt_fault, .int qt_faultPlace])), (qt_bytes, eB G 940 qt_bytes_c)]) C hw iwX9 tyX9_ok nmX9 8 rfl 1 rfl 4 (by decide) kw93 rfl rfl rfl (Nat.le_of_ble_eq_true rfl) rfl dX9_next_39 (fun H locs hw => ?_)
          refine lv_aload_n C.1 C.2.1 dX9_next_42 rfl (lv_at hl 1 rfl) ?_
          refine lv_aload_n C.1 C.2.1 dX9_next_43 rfl (lv_at hl 1 rfl) ?_
          refine x_get C hw iwX9 8 rfl 1 rfl 4 (by decide) kw93 rfl dX9_next_44 ?_
          refine x_calliV (As := [.int v144]) (rest := []) (wr := [(qt_keyCodes, eJ G 27 qt_keyCodes_c)]) C hw (s_X9_at qt v144 qt_keyCodes qt_bytes qt_size qt_most v144 qt_kind qt_place qt_value qt_code qt_key qt_fault qt_faultPlace qt_bytes_c (by omega)) mwX9_at kw530 [1, 2] [0] rfl rfl rfl rfl (by decide) 0 rfl rfl rfl rfl hl.1 rfl (Nat.le_of_ble_eq_true rfl) ⟨(Nat.le_of_ble_eq_true rfl), (Nat.le_of_ble_eq_true rfl)⟩ ⟨(Nat.le_of_ble_eq_true rfl), (Nat.le_of_ble_eq_true rfl)⟩ dX9_next_47 (fun r145 u9 H locs hp9 hw => ?_)
          obtain ⟨x146, rfl, rfl, hf147⟩ := hp9
          have hw : Wd G s A [(qt_keyCodes, eJ G 27 qt_keyCodes_c), (qt, .inr (8, [.ref qt_keyCodes, .ref qt_bytes, .int qt_size, .int qt_most, .int v144, .int qt_kind, .int qt_place, .int qt_value, .long qt_code, .int qt_key, .int qt_fault, .int qt_faultPlace])), (qt_bytes, eB G 940 qt_bytes_c)] H _ := hw
          refine lv_istore_n (lv' := [(1, .int r145), (0, .ref qt)]) C.1 C.2.1 dX9_next_50 rfl hl (by decide) rfl (fun ls hl => ?_)
          refine lv_goto (tgt := 9) C.1 C.2.1 dX9_next_51 (by decide) ?_
          exact ihJ18 r145 v144 (by omega) (by omega) _ _ _ hw (lv_sub hl [0, 1] rfl)
        · skip
          have c143 : j16.toInt ≠ 32 := i_eqF (X := j16.toInt) (Y := 32) rfl rfl c143
          refine lv_iload_n C.1 C.2.1 dX9_next_26 rfl (lv_at hl 0 rfl) ?_
          refine lv_bipush (v := 10) C.1 C.2.1 dX9_next_27 (by decide) ?_
          refine lv_icmp_ne (tgt := 54) C.1 C.2.1 dX9_next_29 (by decide) (fun c148 => ?_) (fun c148 => ?_)
          · skip
            have c148 : j16.toInt ≠ 10 := i_eqF (X := j16.toInt) (Y := 10) rfl rfl c148
            exact J35 j16 j17  (by omega) _ _ _ hw (lv_sub hl [0, 1] rfl)
          · skip
            have c148 : j16.toInt = 10 := i_eqT (X := j16.toInt) (Y := 10) rfl rfl c148
            refine lv_aload_n C.1 C.2.1 dX9_next_32 rfl (lv_at hl 1 rfl) ?_
            refine lv_dup C.1 C.2.1 dX9_next_33 rfl ?_
            refine x_get C hw iwX9 8 rfl 1 rfl 4 (by decide) kw93 rfl dX9_next_34 ?_
            refine lv_iconst (v := 1) C.1 C.2.1 dX9_next_37 (by decide) ?_
            refine lv_iadd C.1 C.2.1 dX9_next_38 (x_genP (fun z : Int32 => z.toInt = j17.toInt + 1) (i_add (X := j17.toInt) (Y := 1) rfl rfl (by omega) (by omega)) (fun v149 hv149 => ?_))
            refine x_put (w' := [(qt_keyCodes, eJ G 27 qt_keyCodes_c), (qt, .inr (8, [.ref qt_keyCodes, .ref qt_bytes, .int qt_size, .int qt_most, .int v149, .int qt_kind, .int qt_place, .int qt_value, .long qt_code, .int qt_key, .int qt_fault, .int qt_faultPlace])), (qt_bytes, eB G 940 qt_bytes_c)]) C hw iwX9 tyX9_ok nmX9 8 rfl 1 rfl 4 (by decide) kw93 rfl rfl rfl (Nat.le_of_ble_eq_true rfl) rfl dX9_next_39 (fun H locs hw => ?_)
            refine lv_aload_n C.1 C.2.1 dX9_next_42 rfl (lv_at hl 1 rfl) ?_
            refine lv_aload_n C.1 C.2.1 dX9_next_43 rfl (lv_at hl 1 rfl) ?_
            refine x_get C hw iwX9 8 rfl 1 rfl 4 (by decide) kw93 rfl dX9_next_44 ?_
            refine x_calliV (As := [.int v149]) (rest := []) (wr := [(qt_keyCodes, eJ G 27 qt_keyCodes_c)]) C hw (s_X9_at qt v149 qt_keyCodes qt_bytes qt_size qt_most v149 qt_kind qt_place qt_value qt_code qt_key qt_fault qt_faultPlace qt_bytes_c (by omega)) mwX9_at kw530 [1, 2] [0] rfl rfl rfl rfl (by decide) 0 rfl rfl rfl rfl hl.1 rfl (Nat.le_of_ble_eq_true rfl) ⟨(Nat.le_of_ble_eq_true rfl), (Nat.le_of_ble_eq_true rfl)⟩ ⟨(Nat.le_of_ble_eq_true rfl), (Nat.le_of_ble_eq_true rfl)⟩ dX9_next_47 (fun r150 u9 H locs hp9 hw => ?_)
            obtain ⟨x151, rfl, rfl, hf152⟩ := hp9
            have hw : Wd G s A [(qt_keyCodes, eJ G 27 qt_keyCodes_c), (qt, .inr (8, [.ref qt_keyCodes, .ref qt_bytes, .int qt_size, .int qt_most, .int v149, .int qt_kind, .int qt_place, .int qt_value, .long qt_code, .int qt_key, .int qt_fault, .int qt_faultPlace])), (qt_bytes, eB G 940 qt_bytes_c)] H _ := hw
            refine lv_istore_n (lv' := [(1, .int r150), (0, .ref qt)]) C.1 C.2.1 dX9_next_50 rfl hl (by decide) rfl (fun ls hl => ?_)
            refine lv_goto (tgt := 9) C.1 C.2.1 dX9_next_51 (by decide) ?_
            exact ihJ18 r150 v149 (by omega) (by omega) _ _ _ hw (lv_sub hl [0, 1] rfl)
  exact loopJ18 _ r1 qt_from (Nat.lt_succ_self _) (by omega) _ _ _ hw (lv_sub hl [0, 1] rfl)
theorem dX9_isSign_0 : decode cX9_isSign 0 = .ok (.aload_n 0, 1) := by decide +kernel
theorem dX9_isSign_1 : decode cX9_isSign 1 = .ok (.getfield 72, 3) := by decide +kernel
theorem dX9_isSign_4 : decode cX9_isSign 4 = .ok (.iconst 5, 1) := by decide +kernel
theorem dX9_isSign_5 : decode cX9_isSign 5 = .ok (.if_icmp .ne 15, 3) := by decide +kernel
theorem dX9_isSign_20 : decode cX9_isSign 20 = .ok (.iconst 0, 1) := by decide +kernel
theorem dX9_isSign_21 : decode cX9_isSign 21 = .ok (.ireturn, 1) := by decide +kernel
theorem dX9_isSign_8 : decode cX9_isSign 8 = .ok (.aload_n 0, 1) := by decide +kernel
theorem dX9_isSign_9 : decode cX9_isSign 9 = .ok (.getfield 62, 3) := by decide +kernel
theorem dX9_isSign_12 : decode cX9_isSign 12 = .ok (.iload_n 1, 1) := by decide +kernel
theorem dX9_isSign_13 : decode cX9_isSign 13 = .ok (.if_icmp .ne 7, 3) := by decide +kernel
theorem dX9_isSign_16 : decode cX9_isSign 16 = .ok (.iconst 1, 1) := by decide +kernel
theorem dX9_isSign_17 : decode cX9_isSign 17 = .ok (.goto 4, 3) := by decide +kernel
set_option maxHeartbeats 4000000 in
set_option maxRecDepth 100000 in
theorem s_X9_isSign {l : Launch} {G : Gc} (qt : Nat) (a1 : Int32) (qt_keyCodes : Nat) (qt_bytes : Nat) (qt_size : Int32) (qt_most : Int32) (qt_from : Int32) (qt_kind : Int32) (qt_place : Int32) (qt_value : Int32) (qt_code : Int64) (qt_key : Int32) (qt_fault : Int32) (qt_faultPlace : Int32) (hi_qt_size : 0 ≤ qt_size.toInt ∧ qt_size.toInt ≤ 940) : Ci l yX9_isSign cX9_isSign 2 (some .boolean) 0 0 0 G [.ref qt, .int a1] [(qt, .inr (8, [.ref qt_keyCodes, .ref qt_bytes, .int qt_size, .int qt_most, .int qt_from, .int qt_kind, .int qt_place, .int qt_value, .long qt_code, .int qt_key, .int qt_fault, .int qt_faultPlace]))] (fun (r9 : Int32) (u9 : va_W) => (r9 = 0 ∧ u9 = [(qt, .inr (8, [.ref qt_keyCodes, .ref qt_bytes, .int qt_size, .int qt_most, .int qt_from, .int qt_kind, .int qt_place, .int qt_value, .long qt_code, .int qt_key, .int qt_fault, .int qt_faultPlace]))]) ∨ (r9 = 1 ∧ u9 = [(qt, .inr (8, [.ref qt_keyCodes, .ref qt_bytes, .int qt_size, .int qt_most, .int qt_from, .int qt_kind, .int qt_place, .int qt_value, .long qt_code, .int qt_key, .int qt_fault, .int qt_faultPlace]))])) := by
  refine Ci.ofQ (by decide) (Nat.le_of_ble_eq_true rfl) ?_
  intro p e s m below meth c ls A args Q hQ B hw hl
  have C : CallFix p m c cX9_isSign 2 s args gw "LanternState$Tape" := B.1
  have hl : lv_has ls 2 [(0, .ref qt), (1, .int a1)] := hl
  refine lv_aload_n C.1 C.2.1 dX9_isSign_0 rfl (lv_at hl 0 rfl) ?_
  refine x_get C hw iwX9 8 rfl 0 rfl 5 (by decide) kw97 rfl dX9_isSign_1 ?_
  refine lv_iconst (v := 5) C.1 C.2.1 dX9_isSign_4 (by decide) ?_
  refine lv_icmp_ne (tgt := 20) C.1 C.2.1 dX9_isSign_5 (by decide) (fun c1 => ?_) (fun c1 => ?_)
  · skip
    have c1 : qt_kind.toInt ≠ 5 := i_eqF (X := qt_kind.toInt) (Y := 5) rfl rfl c1
    have bc1_qt_kind := i_bd qt_kind
    refine lv_iconst (v := 0) C.1 C.2.1 dX9_isSign_20 (by decide) ?_
    exact x_retzQ hQ B hw rfl (Or.inl ⟨rfl, rfl⟩) (Nat.le_of_ble_eq_true rfl) (Nat.le_of_ble_eq_true rfl) dX9_isSign_21
  · skip
    have c1 : qt_kind.toInt = 5 := i_eqT (X := qt_kind.toInt) (Y := 5) rfl rfl c1
    have bc1_qt_kind := i_bd qt_kind
    refine lv_aload_n C.1 C.2.1 dX9_isSign_8 rfl (lv_at hl 0 rfl) ?_
    refine x_get C hw iwX9 8 rfl 0 rfl 7 (by decide) kw101 rfl dX9_isSign_9 ?_
    refine lv_iload_n C.1 C.2.1 dX9_isSign_12 rfl (lv_at hl 1 rfl) ?_
    refine lv_icmp_ne (tgt := 20) C.1 C.2.1 dX9_isSign_13 (by decide) (fun c2 => ?_) (fun c2 => ?_)
    · skip
      have c2 : qt_value.toInt ≠ a1.toInt := i_eqF (X := qt_value.toInt) (Y := a1.toInt) rfl rfl c2
      have bc2_qt_value := i_bd qt_value
      have bc2_a1 := i_bd a1
      refine lv_iconst (v := 0) C.1 C.2.1 dX9_isSign_20 (by decide) ?_
      exact x_retzQ hQ B hw rfl (Or.inl ⟨rfl, rfl⟩) (Nat.le_of_ble_eq_true rfl) (Nat.le_of_ble_eq_true rfl) dX9_isSign_21
    · skip
      have c2 : qt_value.toInt = a1.toInt := i_eqT (X := qt_value.toInt) (Y := a1.toInt) rfl rfl c2
      have bc2_qt_value := i_bd qt_value
      have bc2_a1 := i_bd a1
      refine lv_iconst (v := 1) C.1 C.2.1 dX9_isSign_16 (by decide) ?_
      refine lv_goto (tgt := 21) C.1 C.2.1 dX9_isSign_17 (by decide) ?_
      exact x_retzQ hQ B hw rfl (Or.inr ⟨rfl, rfl⟩) (Nat.le_of_ble_eq_true rfl) (Nat.le_of_ble_eq_true rfl) dX9_isSign_21
theorem dX9_takeNumber_0 : decode cX9_takeNumber 0 = .ok (.aload_n 0, 1) := by decide +kernel
theorem dX9_takeNumber_1 : decode cX9_takeNumber 1 = .ok (.invokevirtual 78, 3) := by decide +kernel
theorem mwX9_next : MwV yX9_next cX9_next 2 none 0 := ⟨⟨kw529, kw2, by decide +kernel⟩, kw527, kw528⟩
theorem dX9_takeNumber_4 : decode cX9_takeNumber 4 = .ok (.aload_n 0, 1) := by decide +kernel
theorem dX9_takeNumber_5 : decode cX9_takeNumber 5 = .ok (.getfield 72, 3) := by decide +kernel
theorem dX9_takeNumber_8 : decode cX9_takeNumber 8 = .ok (.iconst 4, 1) := by decide +kernel
theorem dX9_takeNumber_9 : decode cX9_takeNumber 9 = .ok (.if_icmp .eq 9, 3) := by decide +kernel
theorem dX9_takeNumber_18 : decode cX9_takeNumber 18 = .ok (.aload_n 0, 1) := by decide +kernel
theorem dX9_takeNumber_19 : decode cX9_takeNumber 19 = .ok (.getfield 62, 3) := by decide +kernel
theorem dX9_takeNumber_22 : decode cX9_takeNumber 22 = .ok (.iload_n 1, 1) := by decide +kernel
theorem dX9_takeNumber_23 : decode cX9_takeNumber 23 = .ok (.if_icmp .lt 11, 3) := by decide +kernel
theorem dX9_takeNumber_34 : decode cX9_takeNumber 34 = .ok (.aload_n 0, 1) := by decide +kernel
theorem dX9_takeNumber_35 : decode cX9_takeNumber 35 = .ok (.iconst 2, 1) := by decide +kernel
theorem dX9_takeNumber_36 : decode cX9_takeNumber 36 = .ok (.invokevirtual 81, 3) := by decide +kernel
theorem mwX9_fail : MwV yX9_fail cX9_fail 2 (some .boolean) 1 := ⟨⟨kw549, kw2, by decide +kernel⟩, kw547, kw548⟩
theorem dX9_takeNumber_39 : decode cX9_takeNumber 39 = .ok (.ifCond .eq 7, 3) := by decide +kernel
theorem dX9_takeNumber_46 : decode cX9_takeNumber 46 = .ok (.iconst 0, 1) := by decide +kernel
theorem dX9_takeNumber_47 : decode cX9_takeNumber 47 = .ok (.ireturn, 1) := by decide +kernel
theorem dX9_takeNumber_26 : decode cX9_takeNumber 26 = .ok (.aload_n 0, 1) := by decide +kernel
theorem dX9_takeNumber_27 : decode cX9_takeNumber 27 = .ok (.getfield 62, 3) := by decide +kernel
theorem dX9_takeNumber_30 : decode cX9_takeNumber 30 = .ok (.iload_n 2, 1) := by decide +kernel
theorem dX9_takeNumber_31 : decode cX9_takeNumber 31 = .ok (.if_icmp .le 11, 3) := by decide +kernel
theorem dX9_takeNumber_42 : decode cX9_takeNumber 42 = .ok (.iconst 1, 1) := by decide +kernel
theorem dX9_takeNumber_43 : decode cX9_takeNumber 43 = .ok (.goto 4, 3) := by decide +kernel
theorem dX9_takeNumber_12 : decode cX9_takeNumber 12 = .ok (.aload_n 0, 1) := by decide +kernel
theorem dX9_takeNumber_13 : decode cX9_takeNumber 13 = .ok (.iconst 1, 1) := by decide +kernel
theorem dX9_takeNumber_14 : decode cX9_takeNumber 14 = .ok (.invokevirtual 81, 3) := by decide +kernel
theorem dX9_takeNumber_17 : decode cX9_takeNumber 17 = .ok (.ireturn, 1) := by decide +kernel
set_option maxHeartbeats 4000000 in
set_option maxRecDepth 100000 in
theorem s_X9_takeNumber {l : Launch} {G : Gc} (qt : Nat) (a1 : Int32) (a2 : Int32) (qt_keyCodes : Nat) (qt_bytes : Nat) (qt_size : Int32) (qt_most : Int32) (qt_from : Int32) (qt_kind : Int32) (qt_place : Int32) (qt_value : Int32) (qt_code : Int64) (qt_key : Int32) (qt_fault : Int32) (qt_faultPlace : Int32) (qt_keyCodes_c : Nat → Int64) (qt_bytes_c : Nat → Int32) (hi_qt_size : 0 ≤ qt_size.toInt ∧ qt_size.toInt ≤ 940) : Ci l yX9_takeNumber cX9_takeNumber 3 (some .boolean) 3 0 0 G [.ref qt, .int a1, .int a2] [(qt, .inr (8, [.ref qt_keyCodes, .ref qt_bytes, .int qt_size, .int qt_most, .int qt_from, .int qt_kind, .int qt_place, .int qt_value, .long qt_code, .int qt_key, .int qt_fault, .int qt_faultPlace])), (qt_keyCodes, eJ G 27 qt_keyCodes_c), (qt_bytes, eB G 940 qt_bytes_c)] (fun (r9 : Int32) (u9 : va_W) => (∃ (x0_qt_from : Int32) (x1_qt_kind : Int32) (x2_qt_place : Int32) (x3_qt_value : Int32) (x4_qt_code : Int64) (x5_qt_key : Int32) (x6_qt_fault : Int32) (x7_qt_faultPlace : Int32), r9 = 0 ∧ u9 = [(qt, .inr (8, [.ref qt_keyCodes, .ref qt_bytes, .int qt_size, .int qt_most, .int x0_qt_from, .int x1_qt_kind, .int x2_qt_place, .int x3_qt_value, .long x4_qt_code, .int x5_qt_key, .int x6_qt_fault, .int x7_qt_faultPlace])), (qt_keyCodes, eJ G 27 qt_keyCodes_c), (qt_bytes, eB G 940 qt_bytes_c)] ∧ (0 ≤ x1_qt_kind.toInt ∧ x1_qt_kind.toInt ≤ 5)) ∨ (∃ (x0_qt_from : Int32) (x1_qt_kind : Int32) (x2_qt_place : Int32) (x3_qt_value : Int32) (x4_qt_code : Int64) (x5_qt_key : Int32), r9 = 1 ∧ u9 = [(qt, .inr (8, [.ref qt_keyCodes, .ref qt_bytes, .int qt_size, .int qt_most, .int x0_qt_from, .int x1_qt_kind, .int x2_qt_place, .int x3_qt_value, .long x4_qt_code, .int x5_qt_key, .int qt_fault, .int qt_faultPlace])), (qt_keyCodes, eJ G 27 qt_keyCodes_c), (qt_bytes, eB G 940 qt_bytes_c)] ∧ (4 ≤ x1_qt_kind.toInt ∧ x1_qt_kind.toInt ≤ 4))) := by
  refine Ci.ofQ (by decide) (Nat.le_of_ble_eq_true rfl) ?_
  intro p e s m below meth c ls A args Q hQ B hw hl
  have C : CallFix p m c cX9_takeNumber 3 s args gw "LanternState$Tape" := B.1
  have hl : lv_has ls 3 [(0, .ref qt), (1, .int a1), (2, .int a2)] := hl
  refine lv_aload_n C.1 C.2.1 dX9_takeNumber_0 rfl (lv_at hl 0 rfl) ?_
  refine x_callvV (As := []) (rest := []) (wr := []) C hw (s_X9_next qt qt_keyCodes qt_bytes qt_size qt_most qt_from qt_kind qt_place qt_value qt_code qt_key qt_fault qt_faultPlace qt_keyCodes_c qt_bytes_c (by omega)) mwX9_next kw554 [0, 1, 2] [] rfl rfl rfl rfl (by decide) 0 rfl rfl rfl rfl hl.1 rfl (Nat.le_of_ble_eq_true rfl) ⟨(Nat.le_of_ble_eq_true rfl), (Nat.le_of_ble_eq_true rfl)⟩ ⟨(Nat.le_of_ble_eq_true rfl), (Nat.le_of_ble_eq_true rfl)⟩ dX9_takeNumber_1 (fun  u9 H locs hp9 hw => ?_)
  obtain ⟨x1, x2, x3, x4, x5, x6, rfl, hf7⟩ := hp9
  have hw : Wd G s A [(qt, .inr (8, [.ref qt_keyCodes, .ref qt_bytes, .int qt_size, .int qt_most, .int x1, .int x2, .int x3, .int x4, .long x5, .int x6, .int qt_fault, .int qt_faultPlace])), (qt_keyCodes, eJ G 27 qt_keyCodes_c), (qt_bytes, eB G 940 qt_bytes_c)] H _ := hw
  refine lv_aload_n C.1 C.2.1 dX9_takeNumber_4 rfl (lv_at hl 0 rfl) ?_
  refine x_get C hw iwX9 8 rfl 0 rfl 5 (by decide) kw97 rfl dX9_takeNumber_5 ?_
  refine lv_iconst (v := 4) C.1 C.2.1 dX9_takeNumber_8 (by decide) ?_
  refine lv_icmp_eq (tgt := 18) C.1 C.2.1 dX9_takeNumber_9 (by decide) (fun c8 => ?_) (fun c8 => ?_)
  · skip
    have c8 : x2.toInt = 4 := i_eqT (X := x2.toInt) (Y := 4) rfl rfl c8
    refine lv_aload_n C.1 C.2.1 dX9_takeNumber_18 rfl (lv_at hl 0 rfl) ?_
    refine x_get C hw iwX9 8 rfl 0 rfl 7 (by decide) kw101 rfl dX9_takeNumber_19 ?_
    refine lv_iload_n C.1 C.2.1 dX9_takeNumber_22 rfl (lv_at hl 1 rfl) ?_
    refine lv_icmp_lt (tgt := 34) C.1 C.2.1 dX9_takeNumber_23 (by decide) (fun c9 => ?_) (fun c9 => ?_)
    · skip
      have c9 : x4.toInt < a1.toInt := i_ltT (X := x4.toInt) (Y := a1.toInt) rfl rfl c9
      have bc9_x4 := i_bd x4
      have bc9_a1 := i_bd a1
      refine lv_aload_n C.1 C.2.1 dX9_takeNumber_34 rfl (lv_at hl 0 rfl) ?_
      refine lv_iconst (v := 2) C.1 C.2.1 dX9_takeNumber_35 (by decide) ?_
      refine x_calliV (As := [.int 2]) (rest := []) (wr := [(qt_keyCodes, eJ G 27 qt_keyCodes_c), (qt_bytes, eB G 940 qt_bytes_c)]) C hw (s_X9_fail qt 2 qt_keyCodes qt_bytes qt_size qt_most x1 x2 x3 x4 x5 x6 qt_fault qt_faultPlace (by omega)) mwX9_fail kw555 [0] [1, 2] rfl rfl rfl rfl (by decide) 0 rfl rfl rfl rfl hl.1 rfl (Nat.le_of_ble_eq_true rfl) ⟨(Nat.le_of_ble_eq_true rfl), (Nat.le_of_ble_eq_true rfl)⟩ ⟨(Nat.le_of_ble_eq_true rfl), (Nat.le_of_ble_eq_true rfl)⟩ dX9_takeNumber_36 (fun r10 u9 H locs hp9 hw => ?_)
      obtain ⟨x11, x12, rfl, rfl⟩ := hp9
      have hw : Wd G s A [(qt_keyCodes, eJ G 27 qt_keyCodes_c), (qt_bytes, eB G 940 qt_bytes_c), (qt, .inr (8, [.ref qt_keyCodes, .ref qt_bytes, .int qt_size, .int qt_most, .int x1, .int x2, .int x3, .int x4, .long x5, .int x6, .int x11, .int x12]))] H _ := hw
      refine lv_if_eq (tgt := 46) C.1 C.2.1 dX9_takeNumber_39 (by decide) (fun _ => ?_) (fun h9 => absurd (by decide) h9)
      refine lv_iconst (v := 0) C.1 C.2.1 dX9_takeNumber_46 (by decide) ?_
      have hw := hw.sub (w' := [(qt, .inr (8, [.ref qt_keyCodes, .ref qt_bytes, .int qt_size, .int qt_most, .int x1, .int x2, .int x3, .int x4, .long x5, .int x6, .int x11, .int x12])), (qt_keyCodes, eJ G 27 qt_keyCodes_c), (qt_bytes, eB G 940 qt_bytes_c)]) [2, 0, 1] rfl rfl
      exact x_retzQ hQ B hw rfl (Or.inl ⟨x1, x2, x3, x4, x5, x6, x11, x12, rfl, rfl, (by omega)⟩) (Nat.le_of_ble_eq_true rfl) (Nat.le_of_ble_eq_true rfl) dX9_takeNumber_47
    · skip
      have c9 : a1.toInt ≤ x4.toInt := i_ltF (X := x4.toInt) (Y := a1.toInt) rfl rfl c9
      have bc9_x4 := i_bd x4
      have bc9_a1 := i_bd a1
      refine lv_aload_n C.1 C.2.1 dX9_takeNumber_26 rfl (lv_at hl 0 rfl) ?_
      refine x_get C hw iwX9 8 rfl 0 rfl 7 (by decide) kw101 rfl dX9_takeNumber_27 ?_
      refine lv_iload_n C.1 C.2.1 dX9_takeNumber_30 rfl (lv_at hl 2 rfl) ?_
      refine lv_icmp_le (tgt := 42) C.1 C.2.1 dX9_takeNumber_31 (by decide) (fun c13 => ?_) (fun c13 => ?_)
      · skip
        have c13 : x4.toInt ≤ a2.toInt := i_leT (X := x4.toInt) (Y := a2.toInt) rfl rfl c13
        have bc13_x4 := i_bd x4
        have bc13_a2 := i_bd a2
        refine lv_iconst (v := 1) C.1 C.2.1 dX9_takeNumber_42 (by decide) ?_
        refine lv_goto (tgt := 47) C.1 C.2.1 dX9_takeNumber_43 (by decide) ?_
        exact x_retzQ hQ B hw rfl (Or.inr ⟨x1, x2, x3, x4, x5, x6, rfl, rfl, (by omega)⟩) (Nat.le_of_ble_eq_true rfl) (Nat.le_of_ble_eq_true rfl) dX9_takeNumber_47
      · skip
        have c13 : a2.toInt < x4.toInt := i_leF (X := x4.toInt) (Y := a2.toInt) rfl rfl c13
        have bc13_x4 := i_bd x4
        have bc13_a2 := i_bd a2
        refine lv_aload_n C.1 C.2.1 dX9_takeNumber_34 rfl (lv_at hl 0 rfl) ?_
        refine lv_iconst (v := 2) C.1 C.2.1 dX9_takeNumber_35 (by decide) ?_
        refine x_calliV (As := [.int 2]) (rest := []) (wr := [(qt_keyCodes, eJ G 27 qt_keyCodes_c), (qt_bytes, eB G 940 qt_bytes_c)]) C hw (s_X9_fail qt 2 qt_keyCodes qt_bytes qt_size qt_most x1 x2 x3 x4 x5 x6 qt_fault qt_faultPlace (by omega)) mwX9_fail kw555 [0] [1, 2] rfl rfl rfl rfl (by decide) 0 rfl rfl rfl rfl hl.1 rfl (Nat.le_of_ble_eq_true rfl) ⟨(Nat.le_of_ble_eq_true rfl), (Nat.le_of_ble_eq_true rfl)⟩ ⟨(Nat.le_of_ble_eq_true rfl), (Nat.le_of_ble_eq_true rfl)⟩ dX9_takeNumber_36 (fun r14 u9 H locs hp9 hw => ?_)
        obtain ⟨x15, x16, rfl, rfl⟩ := hp9
        have hw : Wd G s A [(qt_keyCodes, eJ G 27 qt_keyCodes_c), (qt_bytes, eB G 940 qt_bytes_c), (qt, .inr (8, [.ref qt_keyCodes, .ref qt_bytes, .int qt_size, .int qt_most, .int x1, .int x2, .int x3, .int x4, .long x5, .int x6, .int x15, .int x16]))] H _ := hw
        refine lv_if_eq (tgt := 46) C.1 C.2.1 dX9_takeNumber_39 (by decide) (fun _ => ?_) (fun h9 => absurd (by decide) h9)
        refine lv_iconst (v := 0) C.1 C.2.1 dX9_takeNumber_46 (by decide) ?_
        have hw := hw.sub (w' := [(qt, .inr (8, [.ref qt_keyCodes, .ref qt_bytes, .int qt_size, .int qt_most, .int x1, .int x2, .int x3, .int x4, .long x5, .int x6, .int x15, .int x16])), (qt_keyCodes, eJ G 27 qt_keyCodes_c), (qt_bytes, eB G 940 qt_bytes_c)]) [2, 0, 1] rfl rfl
        exact x_retzQ hQ B hw rfl (Or.inl ⟨x1, x2, x3, x4, x5, x6, x15, x16, rfl, rfl, (by omega)⟩) (Nat.le_of_ble_eq_true rfl) (Nat.le_of_ble_eq_true rfl) dX9_takeNumber_47
  · skip
    have c8 : x2.toInt ≠ 4 := i_eqF (X := x2.toInt) (Y := 4) rfl rfl c8
    refine lv_aload_n C.1 C.2.1 dX9_takeNumber_12 rfl (lv_at hl 0 rfl) ?_
    refine lv_iconst (v := 1) C.1 C.2.1 dX9_takeNumber_13 (by decide) ?_
    refine x_calliV (As := [.int 1]) (rest := []) (wr := [(qt_keyCodes, eJ G 27 qt_keyCodes_c), (qt_bytes, eB G 940 qt_bytes_c)]) C hw (s_X9_fail qt 1 qt_keyCodes qt_bytes qt_size qt_most x1 x2 x3 x4 x5 x6 qt_fault qt_faultPlace (by omega)) mwX9_fail kw555 [0] [1, 2] rfl rfl rfl rfl (by decide) 0 rfl rfl rfl rfl hl.1 rfl (Nat.le_of_ble_eq_true rfl) ⟨(Nat.le_of_ble_eq_true rfl), (Nat.le_of_ble_eq_true rfl)⟩ ⟨(Nat.le_of_ble_eq_true rfl), (Nat.le_of_ble_eq_true rfl)⟩ dX9_takeNumber_14 (fun r17 u9 H locs hp9 hw => ?_)
    obtain ⟨x18, x19, rfl, rfl⟩ := hp9
    have hw : Wd G s A [(qt_keyCodes, eJ G 27 qt_keyCodes_c), (qt_bytes, eB G 940 qt_bytes_c), (qt, .inr (8, [.ref qt_keyCodes, .ref qt_bytes, .int qt_size, .int qt_most, .int x1, .int x2, .int x3, .int x4, .long x5, .int x6, .int x18, .int x19]))] H _ := hw
    have hw := hw.sub (w' := [(qt, .inr (8, [.ref qt_keyCodes, .ref qt_bytes, .int qt_size, .int qt_most, .int x1, .int x2, .int x3, .int x4, .long x5, .int x6, .int x18, .int x19])), (qt_keyCodes, eJ G 27 qt_keyCodes_c), (qt_bytes, eB G 940 qt_bytes_c)]) [2, 0, 1] rfl rfl
    exact x_retzQ hQ B hw rfl (Or.inl ⟨x1, x2, x3, x4, x5, x6, x18, x19, rfl, rfl, (by omega)⟩) (Nat.le_of_ble_eq_true rfl) (Nat.le_of_ble_eq_true rfl) dX9_takeNumber_17
theorem dX9_takeName_0 : decode cX9_takeName 0 = .ok (.aload_n 0, 1) := by decide +kernel
theorem dX9_takeName_1 : decode cX9_takeName 1 = .ok (.invokevirtual 78, 3) := by decide +kernel
theorem dX9_takeName_4 : decode cX9_takeName 4 = .ok (.aload_n 0, 1) := by decide +kernel
theorem dX9_takeName_5 : decode cX9_takeName 5 = .ok (.getfield 72, 3) := by decide +kernel
theorem dX9_takeName_8 : decode cX9_takeName 8 = .ok (.iconst 2, 1) := by decide +kernel
theorem dX9_takeName_9 : decode cX9_takeName 9 = .ok (.if_icmp .eq 11, 3) := by decide +kernel
theorem dX9_takeName_20 : decode cX9_takeName 20 = .ok (.iconst 1, 1) := by decide +kernel
theorem dX9_takeName_21 : decode cX9_takeName 21 = .ok (.goto 4, 3) := by decide +kernel
theorem dX9_takeName_25 : decode cX9_takeName 25 = .ok (.ireturn, 1) := by decide +kernel
theorem dX9_takeName_12 : decode cX9_takeName 12 = .ok (.aload_n 0, 1) := by decide +kernel
theorem dX9_takeName_13 : decode cX9_takeName 13 = .ok (.iconst 1, 1) := by decide +kernel
theorem dX9_takeName_14 : decode cX9_takeName 14 = .ok (.invokevirtual 81, 3) := by decide +kernel
theorem dX9_takeName_17 : decode cX9_takeName 17 = .ok (.ifCond .eq 7, 3) := by decide +kernel
theorem dX9_takeName_24 : decode cX9_takeName 24 = .ok (.iconst 0, 1) := by decide +kernel
set_option maxHeartbeats 4000000 in
set_option maxRecDepth 100000 in
theorem s_X9_takeName {l : Launch} {G : Gc} (qt : Nat) (qt_keyCodes : Nat) (qt_bytes : Nat) (qt_size : Int32) (qt_most : Int32) (qt_from : Int32) (qt_kind : Int32) (qt_place : Int32) (qt_value : Int32) (qt_code : Int64) (qt_key : Int32) (qt_fault : Int32) (qt_faultPlace : Int32) (qt_keyCodes_c : Nat → Int64) (qt_bytes_c : Nat → Int32) (hi_qt_size : 0 ≤ qt_size.toInt ∧ qt_size.toInt ≤ 940) : Ci l yX9_takeName cX9_takeName 1 (some .boolean) 3 0 0 G [.ref qt] [(qt, .inr (8, [.ref qt_keyCodes, .ref qt_bytes, .int qt_size, .int qt_most, .int qt_from, .int qt_kind, .int qt_place, .int qt_value, .long qt_code, .int qt_key, .int qt_fault, .int qt_faultPlace])), (qt_keyCodes, eJ G 27 qt_keyCodes_c), (qt_bytes, eB G 940 qt_bytes_c)] (fun (r9 : Int32) (u9 : va_W) => (∃ (x0_qt_from : Int32) (x1_qt_kind : Int32) (x2_qt_place : Int32) (x3_qt_value : Int32) (x4_qt_code : Int64) (x5_qt_key : Int32) (x6_qt_fault : Int32) (x7_qt_faultPlace : Int32), r9 = 0 ∧ u9 = [(qt, .inr (8, [.ref qt_keyCodes, .ref qt_bytes, .int qt_size, .int qt_most, .int x0_qt_from, .int x1_qt_kind, .int x2_qt_place, .int x3_qt_value, .long x4_qt_code, .int x5_qt_key, .int x6_qt_fault, .int x7_qt_faultPlace])), (qt_keyCodes, eJ G 27 qt_keyCodes_c), (qt_bytes, eB G 940 qt_bytes_c)] ∧ (0 ≤ x1_qt_kind.toInt ∧ x1_qt_kind.toInt ≤ 5)) ∨ (∃ (x0_qt_from : Int32) (x1_qt_kind : Int32) (x2_qt_place : Int32) (x3_qt_value : Int32) (x4_qt_code : Int64) (x5_qt_key : Int32), r9 = 1 ∧ u9 = [(qt, .inr (8, [.ref qt_keyCodes, .ref qt_bytes, .int qt_size, .int qt_most, .int x0_qt_from, .int x1_qt_kind, .int x2_qt_place, .int x3_qt_value, .long x4_qt_code, .int x5_qt_key, .int qt_fault, .int qt_faultPlace])), (qt_keyCodes, eJ G 27 qt_keyCodes_c), (qt_bytes, eB G 940 qt_bytes_c)] ∧ (2 ≤ x1_qt_kind.toInt ∧ x1_qt_kind.toInt ≤ 2))) := by
  refine Ci.ofQ (by decide) (Nat.le_of_ble_eq_true rfl) ?_
  intro p e s m below meth c ls A args Q hQ B hw hl
  have C : CallFix p m c cX9_takeName 1 s args gw "LanternState$Tape" := B.1
  have hl : lv_has ls 1 [(0, .ref qt)] := hl
  refine lv_aload_n C.1 C.2.1 dX9_takeName_0 rfl (lv_at hl 0 rfl) ?_
  refine x_callvV (As := []) (rest := []) (wr := []) C hw (s_X9_next qt qt_keyCodes qt_bytes qt_size qt_most qt_from qt_kind qt_place qt_value qt_code qt_key qt_fault qt_faultPlace qt_keyCodes_c qt_bytes_c (by omega)) mwX9_next kw554 [0, 1, 2] [] rfl rfl rfl rfl (by decide) 0 rfl rfl rfl rfl hl.1 rfl (Nat.le_of_ble_eq_true rfl) ⟨(Nat.le_of_ble_eq_true rfl), (Nat.le_of_ble_eq_true rfl)⟩ ⟨(Nat.le_of_ble_eq_true rfl), (Nat.le_of_ble_eq_true rfl)⟩ dX9_takeName_1 (fun  u9 H locs hp9 hw => ?_)
  obtain ⟨x1, x2, x3, x4, x5, x6, rfl, hf7⟩ := hp9
  have hw : Wd G s A [(qt, .inr (8, [.ref qt_keyCodes, .ref qt_bytes, .int qt_size, .int qt_most, .int x1, .int x2, .int x3, .int x4, .long x5, .int x6, .int qt_fault, .int qt_faultPlace])), (qt_keyCodes, eJ G 27 qt_keyCodes_c), (qt_bytes, eB G 940 qt_bytes_c)] H _ := hw
  refine lv_aload_n C.1 C.2.1 dX9_takeName_4 rfl (lv_at hl 0 rfl) ?_
  refine x_get C hw iwX9 8 rfl 0 rfl 5 (by decide) kw97 rfl dX9_takeName_5 ?_
  refine lv_iconst (v := 2) C.1 C.2.1 dX9_takeName_8 (by decide) ?_
  refine lv_icmp_eq (tgt := 20) C.1 C.2.1 dX9_takeName_9 (by decide) (fun c8 => ?_) (fun c8 => ?_)
  · skip
    have c8 : x2.toInt = 2 := i_eqT (X := x2.toInt) (Y := 2) rfl rfl c8
    refine lv_iconst (v := 1) C.1 C.2.1 dX9_takeName_20 (by decide) ?_
    refine lv_goto (tgt := 25) C.1 C.2.1 dX9_takeName_21 (by decide) ?_
    exact x_retzQ hQ B hw rfl (Or.inr ⟨x1, x2, x3, x4, x5, x6, rfl, rfl, (by omega)⟩) (Nat.le_of_ble_eq_true rfl) (Nat.le_of_ble_eq_true rfl) dX9_takeName_25
  · skip
    have c8 : x2.toInt ≠ 2 := i_eqF (X := x2.toInt) (Y := 2) rfl rfl c8
    refine lv_aload_n C.1 C.2.1 dX9_takeName_12 rfl (lv_at hl 0 rfl) ?_
    refine lv_iconst (v := 1) C.1 C.2.1 dX9_takeName_13 (by decide) ?_
    refine x_calliV (As := [.int 1]) (rest := []) (wr := [(qt_keyCodes, eJ G 27 qt_keyCodes_c), (qt_bytes, eB G 940 qt_bytes_c)]) C hw (s_X9_fail qt 1 qt_keyCodes qt_bytes qt_size qt_most x1 x2 x3 x4 x5 x6 qt_fault qt_faultPlace (by omega)) mwX9_fail kw555 [0] [1, 2] rfl rfl rfl rfl (by decide) 0 rfl rfl rfl rfl hl.1 rfl (Nat.le_of_ble_eq_true rfl) ⟨(Nat.le_of_ble_eq_true rfl), (Nat.le_of_ble_eq_true rfl)⟩ ⟨(Nat.le_of_ble_eq_true rfl), (Nat.le_of_ble_eq_true rfl)⟩ dX9_takeName_14 (fun r9 u9 H locs hp9 hw => ?_)
    obtain ⟨x10, x11, rfl, rfl⟩ := hp9
    have hw : Wd G s A [(qt_keyCodes, eJ G 27 qt_keyCodes_c), (qt_bytes, eB G 940 qt_bytes_c), (qt, .inr (8, [.ref qt_keyCodes, .ref qt_bytes, .int qt_size, .int qt_most, .int x1, .int x2, .int x3, .int x4, .long x5, .int x6, .int x10, .int x11]))] H _ := hw
    refine lv_if_eq (tgt := 24) C.1 C.2.1 dX9_takeName_17 (by decide) (fun _ => ?_) (fun h9 => absurd (by decide) h9)
    refine lv_iconst (v := 0) C.1 C.2.1 dX9_takeName_24 (by decide) ?_
    have hw := hw.sub (w' := [(qt, .inr (8, [.ref qt_keyCodes, .ref qt_bytes, .int qt_size, .int qt_most, .int x1, .int x2, .int x3, .int x4, .long x5, .int x6, .int x10, .int x11])), (qt_keyCodes, eJ G 27 qt_keyCodes_c), (qt_bytes, eB G 940 qt_bytes_c)]) [2, 0, 1] rfl rfl
    exact x_retzQ hQ B hw rfl (Or.inl ⟨x1, x2, x3, x4, x5, x6, x10, x11, rfl, rfl, (by omega)⟩) (Nat.le_of_ble_eq_true rfl) (Nat.le_of_ble_eq_true rfl) dX9_takeName_25
theorem dX9_takeSeat_0 : decode cX9_takeSeat 0 = .ok (.aload_n 0, 1) := by decide +kernel
theorem dX9_takeSeat_1 : decode cX9_takeSeat 1 = .ok (.invokevirtual 78, 3) := by decide +kernel
theorem dX9_takeSeat_4 : decode cX9_takeSeat 4 = .ok (.aload_n 0, 1) := by decide +kernel
theorem dX9_takeSeat_5 : decode cX9_takeSeat 5 = .ok (.getfield 69, 3) := by decide +kernel
theorem dX9_takeSeat_8 : decode cX9_takeSeat 8 = .ok (.bipush 9, 2) := by decide +kernel
theorem dX9_takeSeat_10 : decode cX9_takeSeat 10 = .ok (.if_icmp .eq 20, 3) := by decide +kernel
theorem dX9_takeSeat_30 : decode cX9_takeSeat 30 = .ok (.iconst 1, 1) := by decide +kernel
theorem dX9_takeSeat_31 : decode cX9_takeSeat 31 = .ok (.goto 4, 3) := by decide +kernel
theorem dX9_takeSeat_35 : decode cX9_takeSeat 35 = .ok (.ireturn, 1) := by decide +kernel
theorem dX9_takeSeat_13 : decode cX9_takeSeat 13 = .ok (.aload_n 0, 1) := by decide +kernel
theorem dX9_takeSeat_14 : decode cX9_takeSeat 14 = .ok (.getfield 69, 3) := by decide +kernel
theorem dX9_takeSeat_17 : decode cX9_takeSeat 17 = .ok (.bipush 10, 2) := by decide +kernel
theorem dX9_takeSeat_19 : decode cX9_takeSeat 19 = .ok (.if_icmp .eq 11, 3) := by decide +kernel
theorem dX9_takeSeat_22 : decode cX9_takeSeat 22 = .ok (.aload_n 0, 1) := by decide +kernel
theorem dX9_takeSeat_23 : decode cX9_takeSeat 23 = .ok (.iconst 1, 1) := by decide +kernel
theorem dX9_takeSeat_24 : decode cX9_takeSeat 24 = .ok (.invokevirtual 81, 3) := by decide +kernel
theorem dX9_takeSeat_27 : decode cX9_takeSeat 27 = .ok (.ifCond .eq 7, 3) := by decide +kernel
theorem dX9_takeSeat_34 : decode cX9_takeSeat 34 = .ok (.iconst 0, 1) := by decide +kernel
set_option maxHeartbeats 4000000 in
set_option maxRecDepth 100000 in
theorem s_X9_takeSeat {l : Launch} {G : Gc} (qt : Nat) (qt_keyCodes : Nat) (qt_bytes : Nat) (qt_size : Int32) (qt_most : Int32) (qt_from : Int32) (qt_kind : Int32) (qt_place : Int32) (qt_value : Int32) (qt_code : Int64) (qt_key : Int32) (qt_fault : Int32) (qt_faultPlace : Int32) (qt_keyCodes_c : Nat → Int64) (qt_bytes_c : Nat → Int32) (hi_qt_size : 0 ≤ qt_size.toInt ∧ qt_size.toInt ≤ 940) : Ci l yX9_takeSeat cX9_takeSeat 1 (some .boolean) 3 0 0 G [.ref qt] [(qt, .inr (8, [.ref qt_keyCodes, .ref qt_bytes, .int qt_size, .int qt_most, .int qt_from, .int qt_kind, .int qt_place, .int qt_value, .long qt_code, .int qt_key, .int qt_fault, .int qt_faultPlace])), (qt_keyCodes, eJ G 27 qt_keyCodes_c), (qt_bytes, eB G 940 qt_bytes_c)] (fun (r9 : Int32) (u9 : va_W) => (∃ (x0_qt_from : Int32) (x1_qt_kind : Int32) (x2_qt_place : Int32) (x3_qt_value : Int32) (x4_qt_code : Int64) (x5_qt_key : Int32) (x6_qt_fault : Int32) (x7_qt_faultPlace : Int32), r9 = 0 ∧ u9 = [(qt, .inr (8, [.ref qt_keyCodes, .ref qt_bytes, .int qt_size, .int qt_most, .int x0_qt_from, .int x1_qt_kind, .int x2_qt_place, .int x3_qt_value, .long x4_qt_code, .int x5_qt_key, .int x6_qt_fault, .int x7_qt_faultPlace])), (qt_keyCodes, eJ G 27 qt_keyCodes_c), (qt_bytes, eB G 940 qt_bytes_c)] ∧ (0 ≤ x1_qt_kind.toInt ∧ x1_qt_kind.toInt ≤ 5)) ∨ (∃ (x0_qt_from : Int32) (x1_qt_kind : Int32) (x2_qt_place : Int32) (x3_qt_value : Int32) (x4_qt_code : Int64) (x5_qt_key : Int32), r9 = 1 ∧ u9 = [(qt, .inr (8, [.ref qt_keyCodes, .ref qt_bytes, .int qt_size, .int qt_most, .int x0_qt_from, .int x1_qt_kind, .int x2_qt_place, .int x3_qt_value, .long x4_qt_code, .int x5_qt_key, .int qt_fault, .int qt_faultPlace])), (qt_keyCodes, eJ G 27 qt_keyCodes_c), (qt_bytes, eB G 940 qt_bytes_c)] ∧ (0 ≤ x1_qt_kind.toInt ∧ x1_qt_kind.toInt ≤ 5) ∧ (9 ≤ x5_qt_key.toInt ∧ x5_qt_key.toInt ≤ 10))) := by
  refine Ci.ofQ (by decide) (Nat.le_of_ble_eq_true rfl) ?_
  intro p e s m below meth c ls A args Q hQ B hw hl
  have C : CallFix p m c cX9_takeSeat 1 s args gw "LanternState$Tape" := B.1
  have hl : lv_has ls 1 [(0, .ref qt)] := hl
  refine lv_aload_n C.1 C.2.1 dX9_takeSeat_0 rfl (lv_at hl 0 rfl) ?_
  refine x_callvV (As := []) (rest := []) (wr := []) C hw (s_X9_next qt qt_keyCodes qt_bytes qt_size qt_most qt_from qt_kind qt_place qt_value qt_code qt_key qt_fault qt_faultPlace qt_keyCodes_c qt_bytes_c (by omega)) mwX9_next kw554 [0, 1, 2] [] rfl rfl rfl rfl (by decide) 0 rfl rfl rfl rfl hl.1 rfl (Nat.le_of_ble_eq_true rfl) ⟨(Nat.le_of_ble_eq_true rfl), (Nat.le_of_ble_eq_true rfl)⟩ ⟨(Nat.le_of_ble_eq_true rfl), (Nat.le_of_ble_eq_true rfl)⟩ dX9_takeSeat_1 (fun  u9 H locs hp9 hw => ?_)
  obtain ⟨x1, x2, x3, x4, x5, x6, rfl, hf7⟩ := hp9
  have hw : Wd G s A [(qt, .inr (8, [.ref qt_keyCodes, .ref qt_bytes, .int qt_size, .int qt_most, .int x1, .int x2, .int x3, .int x4, .long x5, .int x6, .int qt_fault, .int qt_faultPlace])), (qt_keyCodes, eJ G 27 qt_keyCodes_c), (qt_bytes, eB G 940 qt_bytes_c)] H _ := hw
  refine lv_aload_n C.1 C.2.1 dX9_takeSeat_4 rfl (lv_at hl 0 rfl) ?_
  refine x_get C hw iwX9 8 rfl 0 rfl 9 (by decide) kw109 rfl dX9_takeSeat_5 ?_
  refine lv_bipush (v := 9) C.1 C.2.1 dX9_takeSeat_8 (by decide) ?_
  refine lv_icmp_eq (tgt := 30) C.1 C.2.1 dX9_takeSeat_10 (by decide) (fun c8 => ?_) (fun c8 => ?_)
  · skip
    have c8 : x6.toInt = 9 := i_eqT (X := x6.toInt) (Y := 9) rfl rfl c8
    have bc8_x6 := i_bd x6
    refine lv_iconst (v := 1) C.1 C.2.1 dX9_takeSeat_30 (by decide) ?_
    refine lv_goto (tgt := 35) C.1 C.2.1 dX9_takeSeat_31 (by decide) ?_
    exact x_retzQ hQ B hw rfl (Or.inr ⟨x1, x2, x3, x4, x5, x6, rfl, rfl, (by omega), (by omega)⟩) (Nat.le_of_ble_eq_true rfl) (Nat.le_of_ble_eq_true rfl) dX9_takeSeat_35
  · skip
    have c8 : x6.toInt ≠ 9 := i_eqF (X := x6.toInt) (Y := 9) rfl rfl c8
    have bc8_x6 := i_bd x6
    refine lv_aload_n C.1 C.2.1 dX9_takeSeat_13 rfl (lv_at hl 0 rfl) ?_
    refine x_get C hw iwX9 8 rfl 0 rfl 9 (by decide) kw109 rfl dX9_takeSeat_14 ?_
    refine lv_bipush (v := 10) C.1 C.2.1 dX9_takeSeat_17 (by decide) ?_
    refine lv_icmp_eq (tgt := 30) C.1 C.2.1 dX9_takeSeat_19 (by decide) (fun c9 => ?_) (fun c9 => ?_)
    · skip
      have c9 : x6.toInt = 10 := i_eqT (X := x6.toInt) (Y := 10) rfl rfl c9
      have bc9_x6 := i_bd x6
      refine lv_iconst (v := 1) C.1 C.2.1 dX9_takeSeat_30 (by decide) ?_
      refine lv_goto (tgt := 35) C.1 C.2.1 dX9_takeSeat_31 (by decide) ?_
      exact x_retzQ hQ B hw rfl (Or.inr ⟨x1, x2, x3, x4, x5, x6, rfl, rfl, (by omega), (by omega)⟩) (Nat.le_of_ble_eq_true rfl) (Nat.le_of_ble_eq_true rfl) dX9_takeSeat_35
    · skip
      have c9 : x6.toInt ≠ 10 := i_eqF (X := x6.toInt) (Y := 10) rfl rfl c9
      have bc9_x6 := i_bd x6
      refine lv_aload_n C.1 C.2.1 dX9_takeSeat_22 rfl (lv_at hl 0 rfl) ?_
      refine lv_iconst (v := 1) C.1 C.2.1 dX9_takeSeat_23 (by decide) ?_
      refine x_calliV (As := [.int 1]) (rest := []) (wr := [(qt_keyCodes, eJ G 27 qt_keyCodes_c), (qt_bytes, eB G 940 qt_bytes_c)]) C hw (s_X9_fail qt 1 qt_keyCodes qt_bytes qt_size qt_most x1 x2 x3 x4 x5 x6 qt_fault qt_faultPlace (by omega)) mwX9_fail kw555 [0] [1, 2] rfl rfl rfl rfl (by decide) 0 rfl rfl rfl rfl hl.1 rfl (Nat.le_of_ble_eq_true rfl) ⟨(Nat.le_of_ble_eq_true rfl), (Nat.le_of_ble_eq_true rfl)⟩ ⟨(Nat.le_of_ble_eq_true rfl), (Nat.le_of_ble_eq_true rfl)⟩ dX9_takeSeat_24 (fun r10 u9 H locs hp9 hw => ?_)
      obtain ⟨x11, x12, rfl, rfl⟩ := hp9
      have hw : Wd G s A [(qt_keyCodes, eJ G 27 qt_keyCodes_c), (qt_bytes, eB G 940 qt_bytes_c), (qt, .inr (8, [.ref qt_keyCodes, .ref qt_bytes, .int qt_size, .int qt_most, .int x1, .int x2, .int x3, .int x4, .long x5, .int x6, .int x11, .int x12]))] H _ := hw
      refine lv_if_eq (tgt := 34) C.1 C.2.1 dX9_takeSeat_27 (by decide) (fun _ => ?_) (fun h9 => absurd (by decide) h9)
      refine lv_iconst (v := 0) C.1 C.2.1 dX9_takeSeat_34 (by decide) ?_
      have hw := hw.sub (w' := [(qt, .inr (8, [.ref qt_keyCodes, .ref qt_bytes, .int qt_size, .int qt_most, .int x1, .int x2, .int x3, .int x4, .long x5, .int x6, .int x11, .int x12])), (qt_keyCodes, eJ G 27 qt_keyCodes_c), (qt_bytes, eB G 940 qt_bytes_c)]) [2, 0, 1] rfl rfl
      exact x_retzQ hQ B hw rfl (Or.inl ⟨x1, x2, x3, x4, x5, x6, x11, x12, rfl, rfl, (by omega)⟩) (Nat.le_of_ble_eq_true rfl) (Nat.le_of_ble_eq_true rfl) dX9_takeSeat_35
theorem dX9_takeLineEnd_0 : decode cX9_takeLineEnd 0 = .ok (.aload_n 0, 1) := by decide +kernel
theorem dX9_takeLineEnd_1 : decode cX9_takeLineEnd 1 = .ok (.invokevirtual 78, 3) := by decide +kernel
theorem dX9_takeLineEnd_4 : decode cX9_takeLineEnd 4 = .ok (.aload_n 0, 1) := by decide +kernel
theorem dX9_takeLineEnd_5 : decode cX9_takeLineEnd 5 = .ok (.bipush 59, 2) := by decide +kernel
theorem dX9_takeLineEnd_7 : decode cX9_takeLineEnd 7 = .ok (.invokevirtual 85, 3) := by decide +kernel
theorem mwX9_isSign : MwV yX9_isSign cX9_isSign 2 (some .boolean) 1 := ⟨⟨kw621, kw2, by decide +kernel⟩, kw619, kw620⟩
theorem dX9_takeLineEnd_10 : decode cX9_takeLineEnd 10 = .ok (.ifCond .ne 11, 3) := by decide +kernel
theorem dX9_takeLineEnd_13 : decode cX9_takeLineEnd 13 = .ok (.aload_n 0, 1) := by decide +kernel
theorem dX9_takeLineEnd_14 : decode cX9_takeLineEnd 14 = .ok (.iconst 1, 1) := by decide +kernel
theorem dX9_takeLineEnd_15 : decode cX9_takeLineEnd 15 = .ok (.invokevirtual 81, 3) := by decide +kernel
theorem dX9_takeLineEnd_18 : decode cX9_takeLineEnd 18 = .ok (.ifCond .eq 7, 3) := by decide +kernel
theorem dX9_takeLineEnd_25 : decode cX9_takeLineEnd 25 = .ok (.iconst 0, 1) := by decide +kernel
theorem dX9_takeLineEnd_26 : decode cX9_takeLineEnd 26 = .ok (.ireturn, 1) := by decide +kernel
theorem dX9_takeLineEnd_21 : decode cX9_takeLineEnd 21 = .ok (.iconst 1, 1) := by decide +kernel
theorem dX9_takeLineEnd_22 : decode cX9_takeLineEnd 22 = .ok (.goto 4, 3) := by decide +kernel
set_option maxHeartbeats 4000000 in
set_option maxRecDepth 100000 in
theorem s_X9_takeLineEnd {l : Launch} {G : Gc} (qt : Nat) (qt_keyCodes : Nat) (qt_bytes : Nat) (qt_size : Int32) (qt_most : Int32) (qt_from : Int32) (qt_kind : Int32) (qt_place : Int32) (qt_value : Int32) (qt_code : Int64) (qt_key : Int32) (qt_fault : Int32) (qt_faultPlace : Int32) (qt_keyCodes_c : Nat → Int64) (qt_bytes_c : Nat → Int32) (hi_qt_size : 0 ≤ qt_size.toInt ∧ qt_size.toInt ≤ 940) : Ci l yX9_takeLineEnd cX9_takeLineEnd 1 (some .boolean) 3 0 0 G [.ref qt] [(qt, .inr (8, [.ref qt_keyCodes, .ref qt_bytes, .int qt_size, .int qt_most, .int qt_from, .int qt_kind, .int qt_place, .int qt_value, .long qt_code, .int qt_key, .int qt_fault, .int qt_faultPlace])), (qt_keyCodes, eJ G 27 qt_keyCodes_c), (qt_bytes, eB G 940 qt_bytes_c)] (fun (r9 : Int32) (u9 : va_W) => (∃ (x0_qt_from : Int32) (x1_qt_kind : Int32) (x2_qt_place : Int32) (x3_qt_value : Int32) (x4_qt_code : Int64) (x5_qt_key : Int32) (x6_qt_fault : Int32) (x7_qt_faultPlace : Int32), r9 = 0 ∧ u9 = [(qt, .inr (8, [.ref qt_keyCodes, .ref qt_bytes, .int qt_size, .int qt_most, .int x0_qt_from, .int x1_qt_kind, .int x2_qt_place, .int x3_qt_value, .long x4_qt_code, .int x5_qt_key, .int x6_qt_fault, .int x7_qt_faultPlace])), (qt_keyCodes, eJ G 27 qt_keyCodes_c), (qt_bytes, eB G 940 qt_bytes_c)] ∧ (0 ≤ x1_qt_kind.toInt ∧ x1_qt_kind.toInt ≤ 5)) ∨ (∃ (x0_qt_from : Int32) (x1_qt_kind : Int32) (x2_qt_place : Int32) (x3_qt_value : Int32) (x4_qt_code : Int64) (x5_qt_key : Int32), r9 = 1 ∧ u9 = [(qt, .inr (8, [.ref qt_keyCodes, .ref qt_bytes, .int qt_size, .int qt_most, .int x0_qt_from, .int x1_qt_kind, .int x2_qt_place, .int x3_qt_value, .long x4_qt_code, .int x5_qt_key, .int qt_fault, .int qt_faultPlace])), (qt_keyCodes, eJ G 27 qt_keyCodes_c), (qt_bytes, eB G 940 qt_bytes_c)] ∧ (0 ≤ x1_qt_kind.toInt ∧ x1_qt_kind.toInt ≤ 5))) := by
  refine Ci.ofQ (by decide) (Nat.le_of_ble_eq_true rfl) ?_
  intro p e s m below meth c ls A args Q hQ B hw hl
  have C : CallFix p m c cX9_takeLineEnd 1 s args gw "LanternState$Tape" := B.1
  have hl : lv_has ls 1 [(0, .ref qt)] := hl
  refine lv_aload_n C.1 C.2.1 dX9_takeLineEnd_0 rfl (lv_at hl 0 rfl) ?_
  refine x_callvV (As := []) (rest := []) (wr := []) C hw (s_X9_next qt qt_keyCodes qt_bytes qt_size qt_most qt_from qt_kind qt_place qt_value qt_code qt_key qt_fault qt_faultPlace qt_keyCodes_c qt_bytes_c (by omega)) mwX9_next kw554 [0, 1, 2] [] rfl rfl rfl rfl (by decide) 0 rfl rfl rfl rfl hl.1 rfl (Nat.le_of_ble_eq_true rfl) ⟨(Nat.le_of_ble_eq_true rfl), (Nat.le_of_ble_eq_true rfl)⟩ ⟨(Nat.le_of_ble_eq_true rfl), (Nat.le_of_ble_eq_true rfl)⟩ dX9_takeLineEnd_1 (fun  u9 H locs hp9 hw => ?_)
  obtain ⟨x1, x2, x3, x4, x5, x6, rfl, hf7⟩ := hp9
  have hw : Wd G s A [(qt, .inr (8, [.ref qt_keyCodes, .ref qt_bytes, .int qt_size, .int qt_most, .int x1, .int x2, .int x3, .int x4, .long x5, .int x6, .int qt_fault, .int qt_faultPlace])), (qt_keyCodes, eJ G 27 qt_keyCodes_c), (qt_bytes, eB G 940 qt_bytes_c)] H _ := hw
  refine lv_aload_n C.1 C.2.1 dX9_takeLineEnd_4 rfl (lv_at hl 0 rfl) ?_
  refine lv_bipush (v := 59) C.1 C.2.1 dX9_takeLineEnd_5 (by decide) ?_
  refine x_calliV (As := [.int 59]) (rest := []) (wr := [(qt_keyCodes, eJ G 27 qt_keyCodes_c), (qt_bytes, eB G 940 qt_bytes_c)]) C hw (s_X9_isSign qt 59 qt_keyCodes qt_bytes qt_size qt_most x1 x2 x3 x4 x5 x6 qt_fault qt_faultPlace (by omega)) mwX9_isSign kw618 [0] [1, 2] rfl rfl rfl rfl (by decide) 0 rfl rfl rfl rfl hl.1 rfl (Nat.le_of_ble_eq_true rfl) ⟨(Nat.le_of_ble_eq_true rfl), (Nat.le_of_ble_eq_true rfl)⟩ ⟨(Nat.le_of_ble_eq_true rfl), (Nat.le_of_ble_eq_true rfl)⟩ dX9_takeLineEnd_7 (fun r8 u9 H locs hp9 hw => ?_)
  rcases hp9 with ⟨rfl, rfl⟩ | ⟨rfl, rfl⟩
  · skip
    have hw : Wd G s A [(qt_keyCodes, eJ G 27 qt_keyCodes_c), (qt_bytes, eB G 940 qt_bytes_c), (qt, .inr (8, [.ref qt_keyCodes, .ref qt_bytes, .int qt_size, .int qt_most, .int x1, .int x2, .int x3, .int x4, .long x5, .int x6, .int qt_fault, .int qt_faultPlace]))] H _ := hw
    refine lv_if_ne (tgt := 21) C.1 C.2.1 dX9_takeLineEnd_10 (by decide) (fun h9 => absurd (by decide) h9) (fun _ => ?_)
    refine lv_aload_n C.1 C.2.1 dX9_takeLineEnd_13 rfl (lv_at hl 0 rfl) ?_
    refine lv_iconst (v := 1) C.1 C.2.1 dX9_takeLineEnd_14 (by decide) ?_
    refine x_calliV (As := [.int 1]) (rest := []) (wr := [(qt_keyCodes, eJ G 27 qt_keyCodes_c), (qt_bytes, eB G 940 qt_bytes_c)]) C hw (s_X9_fail qt 1 qt_keyCodes qt_bytes qt_size qt_most x1 x2 x3 x4 x5 x6 qt_fault qt_faultPlace (by omega)) mwX9_fail kw555 [2] [0, 1] rfl rfl rfl rfl (by decide) 0 rfl rfl rfl rfl hl.1 rfl (Nat.le_of_ble_eq_true rfl) ⟨(Nat.le_of_ble_eq_true rfl), (Nat.le_of_ble_eq_true rfl)⟩ ⟨(Nat.le_of_ble_eq_true rfl), (Nat.le_of_ble_eq_true rfl)⟩ dX9_takeLineEnd_15 (fun r9 u9 H locs hp9 hw => ?_)
    obtain ⟨x10, x11, rfl, rfl⟩ := hp9
    have hw : Wd G s A [(qt_keyCodes, eJ G 27 qt_keyCodes_c), (qt_bytes, eB G 940 qt_bytes_c), (qt, .inr (8, [.ref qt_keyCodes, .ref qt_bytes, .int qt_size, .int qt_most, .int x1, .int x2, .int x3, .int x4, .long x5, .int x6, .int x10, .int x11]))] H _ := hw
    refine lv_if_eq (tgt := 25) C.1 C.2.1 dX9_takeLineEnd_18 (by decide) (fun _ => ?_) (fun h9 => absurd (by decide) h9)
    refine lv_iconst (v := 0) C.1 C.2.1 dX9_takeLineEnd_25 (by decide) ?_
    have hw := hw.sub (w' := [(qt, .inr (8, [.ref qt_keyCodes, .ref qt_bytes, .int qt_size, .int qt_most, .int x1, .int x2, .int x3, .int x4, .long x5, .int x6, .int x10, .int x11])), (qt_keyCodes, eJ G 27 qt_keyCodes_c), (qt_bytes, eB G 940 qt_bytes_c)]) [2, 0, 1] rfl rfl
    exact x_retzQ hQ B hw rfl (Or.inl ⟨x1, x2, x3, x4, x5, x6, x10, x11, rfl, rfl, (by omega)⟩) (Nat.le_of_ble_eq_true rfl) (Nat.le_of_ble_eq_true rfl) dX9_takeLineEnd_26
  · skip
    have hw : Wd G s A [(qt_keyCodes, eJ G 27 qt_keyCodes_c), (qt_bytes, eB G 940 qt_bytes_c), (qt, .inr (8, [.ref qt_keyCodes, .ref qt_bytes, .int qt_size, .int qt_most, .int x1, .int x2, .int x3, .int x4, .long x5, .int x6, .int qt_fault, .int qt_faultPlace]))] H _ := hw
    refine lv_if_ne (tgt := 21) C.1 C.2.1 dX9_takeLineEnd_10 (by decide) (fun _ => ?_) (fun h9 => absurd h9 (by decide))
    refine lv_iconst (v := 1) C.1 C.2.1 dX9_takeLineEnd_21 (by decide) ?_
    refine lv_goto (tgt := 26) C.1 C.2.1 dX9_takeLineEnd_22 (by decide) ?_
    have hw := hw.sub (w' := [(qt, .inr (8, [.ref qt_keyCodes, .ref qt_bytes, .int qt_size, .int qt_most, .int x1, .int x2, .int x3, .int x4, .long x5, .int x6, .int qt_fault, .int qt_faultPlace])), (qt_keyCodes, eJ G 27 qt_keyCodes_c), (qt_bytes, eB G 940 qt_bytes_c)]) [2, 0, 1] rfl rfl
    exact x_retzQ hQ B hw rfl (Or.inr ⟨x1, x2, x3, x4, x5, x6, rfl, rfl, (by omega)⟩) (Nat.le_of_ble_eq_true rfl) (Nat.le_of_ble_eq_true rfl) dX9_takeLineEnd_26
theorem dX9_takeKey_0 : decode cX9_takeKey 0 = .ok (.aload_n 0, 1) := by decide +kernel
theorem dX9_takeKey_1 : decode cX9_takeKey 1 = .ok (.invokevirtual 78, 3) := by decide +kernel
theorem dX9_takeKey_4 : decode cX9_takeKey 4 = .ok (.aload_n 0, 1) := by decide +kernel
theorem dX9_takeKey_5 : decode cX9_takeKey 5 = .ok (.getfield 69, 3) := by decide +kernel
theorem dX9_takeKey_8 : decode cX9_takeKey 8 = .ok (.iload_n 1, 1) := by decide +kernel
theorem dX9_takeKey_9 : decode cX9_takeKey 9 = .ok (.if_icmp .eq 11, 3) := by decide +kernel
theorem dX9_takeKey_20 : decode cX9_takeKey 20 = .ok (.iconst 1, 1) := by decide +kernel
theorem dX9_takeKey_21 : decode cX9_takeKey 21 = .ok (.goto 4, 3) := by decide +kernel
theorem dX9_takeKey_25 : decode cX9_takeKey 25 = .ok (.ireturn, 1) := by decide +kernel
theorem dX9_takeKey_12 : decode cX9_takeKey 12 = .ok (.aload_n 0, 1) := by decide +kernel
theorem dX9_takeKey_13 : decode cX9_takeKey 13 = .ok (.iconst 1, 1) := by decide +kernel
theorem dX9_takeKey_14 : decode cX9_takeKey 14 = .ok (.invokevirtual 81, 3) := by decide +kernel
theorem dX9_takeKey_17 : decode cX9_takeKey 17 = .ok (.ifCond .eq 7, 3) := by decide +kernel
theorem dX9_takeKey_24 : decode cX9_takeKey 24 = .ok (.iconst 0, 1) := by decide +kernel
set_option maxHeartbeats 4000000 in
set_option maxRecDepth 100000 in
theorem s_X9_takeKey {l : Launch} {G : Gc} (qt : Nat) (a1 : Int32) (qt_keyCodes : Nat) (qt_bytes : Nat) (qt_size : Int32) (qt_most : Int32) (qt_from : Int32) (qt_kind : Int32) (qt_place : Int32) (qt_value : Int32) (qt_code : Int64) (qt_key : Int32) (qt_fault : Int32) (qt_faultPlace : Int32) (qt_keyCodes_c : Nat → Int64) (qt_bytes_c : Nat → Int32) (hi_qt_size : 0 ≤ qt_size.toInt ∧ qt_size.toInt ≤ 940) : Ci l yX9_takeKey cX9_takeKey 2 (some .boolean) 3 0 0 G [.ref qt, .int a1] [(qt, .inr (8, [.ref qt_keyCodes, .ref qt_bytes, .int qt_size, .int qt_most, .int qt_from, .int qt_kind, .int qt_place, .int qt_value, .long qt_code, .int qt_key, .int qt_fault, .int qt_faultPlace])), (qt_keyCodes, eJ G 27 qt_keyCodes_c), (qt_bytes, eB G 940 qt_bytes_c)] (fun (r9 : Int32) (u9 : va_W) => (∃ (x0_qt_from : Int32) (x1_qt_kind : Int32) (x2_qt_place : Int32) (x3_qt_value : Int32) (x4_qt_code : Int64) (x5_qt_key : Int32) (x6_qt_fault : Int32) (x7_qt_faultPlace : Int32), r9 = 0 ∧ u9 = [(qt, .inr (8, [.ref qt_keyCodes, .ref qt_bytes, .int qt_size, .int qt_most, .int x0_qt_from, .int x1_qt_kind, .int x2_qt_place, .int x3_qt_value, .long x4_qt_code, .int x5_qt_key, .int x6_qt_fault, .int x7_qt_faultPlace])), (qt_keyCodes, eJ G 27 qt_keyCodes_c), (qt_bytes, eB G 940 qt_bytes_c)] ∧ (0 ≤ x1_qt_kind.toInt ∧ x1_qt_kind.toInt ≤ 5)) ∨ (∃ (x0_qt_from : Int32) (x1_qt_kind : Int32) (x2_qt_place : Int32) (x3_qt_value : Int32) (x4_qt_code : Int64) (x5_qt_key : Int32), r9 = 1 ∧ u9 = [(qt, .inr (8, [.ref qt_keyCodes, .ref qt_bytes, .int qt_size, .int qt_most, .int x0_qt_from, .int x1_qt_kind, .int x2_qt_place, .int x3_qt_value, .long x4_qt_code, .int x5_qt_key, .int qt_fault, .int qt_faultPlace])), (qt_keyCodes, eJ G 27 qt_keyCodes_c), (qt_bytes, eB G 940 qt_bytes_c)] ∧ (0 ≤ x1_qt_kind.toInt ∧ x1_qt_kind.toInt ≤ 5))) := by
  refine Ci.ofQ (by decide) (Nat.le_of_ble_eq_true rfl) ?_
  intro p e s m below meth c ls A args Q hQ B hw hl
  have C : CallFix p m c cX9_takeKey 2 s args gw "LanternState$Tape" := B.1
  have hl : lv_has ls 2 [(0, .ref qt), (1, .int a1)] := hl
  refine lv_aload_n C.1 C.2.1 dX9_takeKey_0 rfl (lv_at hl 0 rfl) ?_
  refine x_callvV (As := []) (rest := []) (wr := []) C hw (s_X9_next qt qt_keyCodes qt_bytes qt_size qt_most qt_from qt_kind qt_place qt_value qt_code qt_key qt_fault qt_faultPlace qt_keyCodes_c qt_bytes_c (by omega)) mwX9_next kw554 [0, 1, 2] [] rfl rfl rfl rfl (by decide) 0 rfl rfl rfl rfl hl.1 rfl (Nat.le_of_ble_eq_true rfl) ⟨(Nat.le_of_ble_eq_true rfl), (Nat.le_of_ble_eq_true rfl)⟩ ⟨(Nat.le_of_ble_eq_true rfl), (Nat.le_of_ble_eq_true rfl)⟩ dX9_takeKey_1 (fun  u9 H locs hp9 hw => ?_)
  obtain ⟨x1, x2, x3, x4, x5, x6, rfl, hf7⟩ := hp9
  have hw : Wd G s A [(qt, .inr (8, [.ref qt_keyCodes, .ref qt_bytes, .int qt_size, .int qt_most, .int x1, .int x2, .int x3, .int x4, .long x5, .int x6, .int qt_fault, .int qt_faultPlace])), (qt_keyCodes, eJ G 27 qt_keyCodes_c), (qt_bytes, eB G 940 qt_bytes_c)] H _ := hw
  refine lv_aload_n C.1 C.2.1 dX9_takeKey_4 rfl (lv_at hl 0 rfl) ?_
  refine x_get C hw iwX9 8 rfl 0 rfl 9 (by decide) kw109 rfl dX9_takeKey_5 ?_
  refine lv_iload_n C.1 C.2.1 dX9_takeKey_8 rfl (lv_at hl 1 rfl) ?_
  refine lv_icmp_eq (tgt := 20) C.1 C.2.1 dX9_takeKey_9 (by decide) (fun c8 => ?_) (fun c8 => ?_)
  · skip
    have c8 : x6.toInt = a1.toInt := i_eqT (X := x6.toInt) (Y := a1.toInt) rfl rfl c8
    have bc8_x6 := i_bd x6
    have bc8_a1 := i_bd a1
    refine lv_iconst (v := 1) C.1 C.2.1 dX9_takeKey_20 (by decide) ?_
    refine lv_goto (tgt := 25) C.1 C.2.1 dX9_takeKey_21 (by decide) ?_
    exact x_retzQ hQ B hw rfl (Or.inr ⟨x1, x2, x3, x4, x5, x6, rfl, rfl, (by omega)⟩) (Nat.le_of_ble_eq_true rfl) (Nat.le_of_ble_eq_true rfl) dX9_takeKey_25
  · skip
    have c8 : x6.toInt ≠ a1.toInt := i_eqF (X := x6.toInt) (Y := a1.toInt) rfl rfl c8
    have bc8_x6 := i_bd x6
    have bc8_a1 := i_bd a1
    refine lv_aload_n C.1 C.2.1 dX9_takeKey_12 rfl (lv_at hl 0 rfl) ?_
    refine lv_iconst (v := 1) C.1 C.2.1 dX9_takeKey_13 (by decide) ?_
    refine x_calliV (As := [.int 1]) (rest := []) (wr := [(qt_keyCodes, eJ G 27 qt_keyCodes_c), (qt_bytes, eB G 940 qt_bytes_c)]) C hw (s_X9_fail qt 1 qt_keyCodes qt_bytes qt_size qt_most x1 x2 x3 x4 x5 x6 qt_fault qt_faultPlace (by omega)) mwX9_fail kw555 [0] [1, 2] rfl rfl rfl rfl (by decide) 0 rfl rfl rfl rfl hl.1 rfl (Nat.le_of_ble_eq_true rfl) ⟨(Nat.le_of_ble_eq_true rfl), (Nat.le_of_ble_eq_true rfl)⟩ ⟨(Nat.le_of_ble_eq_true rfl), (Nat.le_of_ble_eq_true rfl)⟩ dX9_takeKey_14 (fun r9 u9 H locs hp9 hw => ?_)
    obtain ⟨x10, x11, rfl, rfl⟩ := hp9
    have hw : Wd G s A [(qt_keyCodes, eJ G 27 qt_keyCodes_c), (qt_bytes, eB G 940 qt_bytes_c), (qt, .inr (8, [.ref qt_keyCodes, .ref qt_bytes, .int qt_size, .int qt_most, .int x1, .int x2, .int x3, .int x4, .long x5, .int x6, .int x10, .int x11]))] H _ := hw
    refine lv_if_eq (tgt := 24) C.1 C.2.1 dX9_takeKey_17 (by decide) (fun _ => ?_) (fun h9 => absurd (by decide) h9)
    refine lv_iconst (v := 0) C.1 C.2.1 dX9_takeKey_24 (by decide) ?_
    have hw := hw.sub (w' := [(qt, .inr (8, [.ref qt_keyCodes, .ref qt_bytes, .int qt_size, .int qt_most, .int x1, .int x2, .int x3, .int x4, .long x5, .int x6, .int x10, .int x11])), (qt_keyCodes, eJ G 27 qt_keyCodes_c), (qt_bytes, eB G 940 qt_bytes_c)]) [2, 0, 1] rfl rfl
    exact x_retzQ hQ B hw rfl (Or.inl ⟨x1, x2, x3, x4, x5, x6, x10, x11, rfl, rfl, (by omega)⟩) (Nat.le_of_ble_eq_true rfl) (Nat.le_of_ble_eq_true rfl) dX9_takeKey_25
