-- needs: 4
theorem dJ6_bitCount_0f7a4_0 : decode cJ6_bitCount_0f7a4 0 = .ok (.iload_n 0, 1) := by decide +kernel
theorem dJ6_bitCount_0f7a4_1 : decode cJ6_bitCount_0f7a4 1 = .ok (.iload_n 0, 1) := by decide +kernel
theorem dJ6_bitCount_0f7a4_2 : decode cJ6_bitCount_0f7a4 2 = .ok (.iconst 1, 1) := by decide +kernel
theorem dJ6_bitCount_0f7a4_3 : decode cJ6_bitCount_0f7a4 3 = .ok (.iushr, 1) := by decide +kernel
theorem dJ6_bitCount_0f7a4_4 : decode cJ6_bitCount_0f7a4 4 = .ok (.ldc_w 265, 3) := by decide +kernel
theorem dJ6_bitCount_0f7a4_7 : decode cJ6_bitCount_0f7a4 7 = .ok (.iand, 1) := by decide +kernel
theorem dJ6_bitCount_0f7a4_8 : decode cJ6_bitCount_0f7a4 8 = .ok (.isub, 1) := by decide +kernel
theorem dJ6_bitCount_0f7a4_9 : decode cJ6_bitCount_0f7a4 9 = .ok (.istore_n 0, 1) := by decide +kernel
theorem dJ6_bitCount_0f7a4_10 : decode cJ6_bitCount_0f7a4 10 = .ok (.iload_n 0, 1) := by decide +kernel
theorem dJ6_bitCount_0f7a4_11 : decode cJ6_bitCount_0f7a4 11 = .ok (.ldc_w 266, 3) := by decide +kernel
theorem dJ6_bitCount_0f7a4_14 : decode cJ6_bitCount_0f7a4 14 = .ok (.iand, 1) := by decide +kernel
theorem dJ6_bitCount_0f7a4_15 : decode cJ6_bitCount_0f7a4 15 = .ok (.iload_n 0, 1) := by decide +kernel
theorem dJ6_bitCount_0f7a4_16 : decode cJ6_bitCount_0f7a4 16 = .ok (.iconst 2, 1) := by decide +kernel
theorem dJ6_bitCount_0f7a4_17 : decode cJ6_bitCount_0f7a4 17 = .ok (.iushr, 1) := by decide +kernel
theorem dJ6_bitCount_0f7a4_18 : decode cJ6_bitCount_0f7a4 18 = .ok (.ldc_w 266, 3) := by decide +kernel
theorem dJ6_bitCount_0f7a4_21 : decode cJ6_bitCount_0f7a4 21 = .ok (.iand, 1) := by decide +kernel
theorem dJ6_bitCount_0f7a4_22 : decode cJ6_bitCount_0f7a4 22 = .ok (.iadd, 1) := by decide +kernel
theorem dJ6_bitCount_0f7a4_23 : decode cJ6_bitCount_0f7a4 23 = .ok (.istore_n 0, 1) := by decide +kernel
theorem dJ6_bitCount_0f7a4_24 : decode cJ6_bitCount_0f7a4 24 = .ok (.iload_n 0, 1) := by decide +kernel
theorem dJ6_bitCount_0f7a4_25 : decode cJ6_bitCount_0f7a4 25 = .ok (.iload_n 0, 1) := by decide +kernel
theorem dJ6_bitCount_0f7a4_26 : decode cJ6_bitCount_0f7a4 26 = .ok (.iconst 4, 1) := by decide +kernel
theorem dJ6_bitCount_0f7a4_27 : decode cJ6_bitCount_0f7a4 27 = .ok (.iushr, 1) := by decide +kernel
theorem dJ6_bitCount_0f7a4_28 : decode cJ6_bitCount_0f7a4 28 = .ok (.iadd, 1) := by decide +kernel
theorem dJ6_bitCount_0f7a4_29 : decode cJ6_bitCount_0f7a4 29 = .ok (.ldc_w 267, 3) := by decide +kernel
theorem dJ6_bitCount_0f7a4_32 : decode cJ6_bitCount_0f7a4 32 = .ok (.iand, 1) := by decide +kernel
theorem dJ6_bitCount_0f7a4_33 : decode cJ6_bitCount_0f7a4 33 = .ok (.istore_n 0, 1) := by decide +kernel
theorem dJ6_bitCount_0f7a4_34 : decode cJ6_bitCount_0f7a4 34 = .ok (.iload_n 0, 1) := by decide +kernel
theorem dJ6_bitCount_0f7a4_35 : decode cJ6_bitCount_0f7a4 35 = .ok (.iload_n 0, 1) := by decide +kernel
theorem dJ6_bitCount_0f7a4_36 : decode cJ6_bitCount_0f7a4 36 = .ok (.bipush 8, 2) := by decide +kernel
theorem dJ6_bitCount_0f7a4_38 : decode cJ6_bitCount_0f7a4 38 = .ok (.iushr, 1) := by decide +kernel
theorem dJ6_bitCount_0f7a4_39 : decode cJ6_bitCount_0f7a4 39 = .ok (.iadd, 1) := by decide +kernel
theorem dJ6_bitCount_0f7a4_40 : decode cJ6_bitCount_0f7a4 40 = .ok (.istore_n 0, 1) := by decide +kernel
theorem dJ6_bitCount_0f7a4_41 : decode cJ6_bitCount_0f7a4 41 = .ok (.iload_n 0, 1) := by decide +kernel
theorem dJ6_bitCount_0f7a4_42 : decode cJ6_bitCount_0f7a4 42 = .ok (.iload_n 0, 1) := by decide +kernel
theorem dJ6_bitCount_0f7a4_43 : decode cJ6_bitCount_0f7a4 43 = .ok (.bipush 16, 2) := by decide +kernel
theorem dJ6_bitCount_0f7a4_45 : decode cJ6_bitCount_0f7a4 45 = .ok (.iushr, 1) := by decide +kernel
theorem dJ6_bitCount_0f7a4_46 : decode cJ6_bitCount_0f7a4 46 = .ok (.iadd, 1) := by decide +kernel
theorem dJ6_bitCount_0f7a4_47 : decode cJ6_bitCount_0f7a4 47 = .ok (.istore_n 0, 1) := by decide +kernel
theorem dJ6_bitCount_0f7a4_48 : decode cJ6_bitCount_0f7a4 48 = .ok (.iload_n 0, 1) := by decide +kernel
theorem dJ6_bitCount_0f7a4_49 : decode cJ6_bitCount_0f7a4 49 = .ok (.bipush 63, 2) := by decide +kernel
theorem dJ6_bitCount_0f7a4_51 : decode cJ6_bitCount_0f7a4 51 = .ok (.iand, 1) := by decide +kernel
theorem dJ6_bitCount_0f7a4_52 : decode cJ6_bitCount_0f7a4 52 = .ok (.ireturn, 1) := by decide +kernel
set_option maxHeartbeats 4000000 in
set_option maxRecDepth 100000 in
theorem s_J6_bitCount_0f7a4 {l : Launch} {G : Gc} (a1 : Int32)  : Ci l yJ6_bitCount_0f7a4 cJ6_bitCount_0f7a4 1 (some .int) 0 0 0 G [.int a1] [] (fun (r9 : Int32) (u9 : va_W) => ∃ (r_x : Int32), r9 = r_x ∧ u9 = [] ∧ (0 ≤ r_x.toInt ∧ r_x.toInt ≤ 63)) := by
  refine Ci.ofQ (by decide) (Nat.le_of_ble_eq_true rfl) ?_
  intro p e s m below meth c ls A args Q hQ B hw hl
  have C : CallFix p m c cJ6_bitCount_0f7a4 1 s args gw "java/lang/Integer" := B.1
  have hl : lv_has ls 1 [(0, .int a1)] := hl
  refine lv_iload_n C.1 C.2.1 dJ6_bitCount_0f7a4_0 rfl (lv_at hl 0 rfl) ?_
  refine lv_iload_n C.1 C.2.1 dJ6_bitCount_0f7a4_1 rfl (lv_at hl 0 rfl) ?_
  refine lv_iconst (v := 1) C.1 C.2.1 dJ6_bitCount_0f7a4_2 (by decide) ?_
  refine lv_iushr (v := ((a1.toUInt32 >>> ((1 : Int32).toUInt32 &&& Int32.toUInt32 31)).toInt32)) C.1 C.2.1 dJ6_bitCount_0f7a4_3 rfl (x_gen (fun v1 => ?_))
  refine lv_ldcw (v := 1431655765) C.1 C.2.1 C.2.2.2.1 (C.2.2.2.2 _ kw724) dJ6_bitCount_0f7a4_4 ?_
  refine lv_iand C.1 C.2.1 dJ6_bitCount_0f7a4_7 (x_gen (fun v2 => ?_))
  refine lv_isub C.1 C.2.1 dJ6_bitCount_0f7a4_8 (x_gen (fun v3 => ?_))
  refine lv_istore_n (lv' := [(0, .int v3)]) C.1 C.2.1 dJ6_bitCount_0f7a4_9 rfl hl (by decide) rfl (fun ls hl => ?_)
  refine lv_iload_n C.1 C.2.1 dJ6_bitCount_0f7a4_10 rfl (lv_at hl 0 rfl) ?_
  refine lv_ldcw (v := 858993459) C.1 C.2.1 C.2.2.2.1 (C.2.2.2.2 _ kw725) dJ6_bitCount_0f7a4_11 ?_
  refine lv_iand C.1 C.2.1 dJ6_bitCount_0f7a4_14 (x_gen (fun v4 => ?_))
  refine lv_iload_n C.1 C.2.1 dJ6_bitCount_0f7a4_15 rfl (lv_at hl 0 rfl) ?_
  refine lv_iconst (v := 2) C.1 C.2.1 dJ6_bitCount_0f7a4_16 (by decide) ?_
  refine lv_iushr (v := ((v3.toUInt32 >>> ((2 : Int32).toUInt32 &&& Int32.toUInt32 31)).toInt32)) C.1 C.2.1 dJ6_bitCount_0f7a4_17 rfl (x_gen (fun v5 => ?_))
  refine lv_ldcw (v := 858993459) C.1 C.2.1 C.2.2.2.1 (C.2.2.2.2 _ kw725) dJ6_bitCount_0f7a4_18 ?_
  refine lv_iand C.1 C.2.1 dJ6_bitCount_0f7a4_21 (x_gen (fun v6 => ?_))
  refine lv_iadd C.1 C.2.1 dJ6_bitCount_0f7a4_22 (x_gen (fun v7 => ?_))
  refine lv_istore_n (lv' := [(0, .int v7)]) C.1 C.2.1 dJ6_bitCount_0f7a4_23 rfl hl (by decide) rfl (fun ls hl => ?_)
  refine lv_iload_n C.1 C.2.1 dJ6_bitCount_0f7a4_24 rfl (lv_at hl 0 rfl) ?_
  refine lv_iload_n C.1 C.2.1 dJ6_bitCount_0f7a4_25 rfl (lv_at hl 0 rfl) ?_
  refine lv_iconst (v := 4) C.1 C.2.1 dJ6_bitCount_0f7a4_26 (by decide) ?_
  refine lv_iushr (v := ((v7.toUInt32 >>> ((4 : Int32).toUInt32 &&& Int32.toUInt32 31)).toInt32)) C.1 C.2.1 dJ6_bitCount_0f7a4_27 rfl (x_gen (fun v8 => ?_))
  refine lv_iadd C.1 C.2.1 dJ6_bitCount_0f7a4_28 (x_gen (fun v9 => ?_))
  refine lv_ldcw (v := 252645135) C.1 C.2.1 C.2.2.2.1 (C.2.2.2.2 _ kw726) dJ6_bitCount_0f7a4_29 ?_
  refine lv_iand C.1 C.2.1 dJ6_bitCount_0f7a4_32 (x_gen (fun v10 => ?_))
  refine lv_istore_n (lv' := [(0, .int v10)]) C.1 C.2.1 dJ6_bitCount_0f7a4_33 rfl hl (by decide) rfl (fun ls hl => ?_)
  refine lv_iload_n C.1 C.2.1 dJ6_bitCount_0f7a4_34 rfl (lv_at hl 0 rfl) ?_
  refine lv_iload_n C.1 C.2.1 dJ6_bitCount_0f7a4_35 rfl (lv_at hl 0 rfl) ?_
  refine lv_bipush (v := 8) C.1 C.2.1 dJ6_bitCount_0f7a4_36 (by decide) ?_
  refine lv_iushr (v := ((v10.toUInt32 >>> ((8 : Int32).toUInt32 &&& Int32.toUInt32 31)).toInt32)) C.1 C.2.1 dJ6_bitCount_0f7a4_38 rfl (x_genP (fun z : Int32 => 0 ≤ z.toInt ∧ z.toInt ≤ 16777215) (i_ushr8 _) (fun v11 hv11 => ?_))
  refine lv_iadd C.1 C.2.1 dJ6_bitCount_0f7a4_39 (x_gen (fun v12 => ?_))
  refine lv_istore_n (lv' := [(0, .int v12)]) C.1 C.2.1 dJ6_bitCount_0f7a4_40 rfl hl (by decide) rfl (fun ls hl => ?_)
  refine lv_iload_n C.1 C.2.1 dJ6_bitCount_0f7a4_41 rfl (lv_at hl 0 rfl) ?_
  refine lv_iload_n C.1 C.2.1 dJ6_bitCount_0f7a4_42 rfl (lv_at hl 0 rfl) ?_
  refine lv_bipush (v := 16) C.1 C.2.1 dJ6_bitCount_0f7a4_43 (by decide) ?_
  refine lv_iushr (v := ((v12.toUInt32 >>> ((16 : Int32).toUInt32 &&& Int32.toUInt32 31)).toInt32)) C.1 C.2.1 dJ6_bitCount_0f7a4_45 rfl (x_gen (fun v13 => ?_))
  refine lv_iadd C.1 C.2.1 dJ6_bitCount_0f7a4_46 (x_gen (fun v14 => ?_))
  refine lv_istore_n (lv' := [(0, .int v14)]) C.1 C.2.1 dJ6_bitCount_0f7a4_47 rfl hl (by decide) rfl (fun ls hl => ?_)
  refine lv_iload_n C.1 C.2.1 dJ6_bitCount_0f7a4_48 rfl (lv_at hl 0 rfl) ?_
  refine lv_bipush (v := 63) C.1 C.2.1 dJ6_bitCount_0f7a4_49 (by decide) ?_
  refine lv_iand C.1 C.2.1 dJ6_bitCount_0f7a4_51 (x_genP (fun z : Int32 => 0 ≤ z.toInt ∧ z.toInt ≤ 63) (i_andR 6 rfl (by decide) rfl) (fun v15 hv15 => ?_))
  exact x_retiQ hQ B hw ⟨v15, rfl, rfl, (by omega)⟩ (Nat.le_of_ble_eq_true rfl) (Nat.le_of_ble_eq_true rfl) dJ6_bitCount_0f7a4_52
set_option maxHeartbeats 4000000 in
set_option maxRecDepth 100000 in
theorem s_X4_cell {l : Launch} {G : Gc} (a1 : Int32) (a2 : Int32)  : Ci l yX4_cell cX4_cell 2 (some .int) 0 0 0 G [.int a1, .int a2] [] (fun (r9 : Int32) (u9 : va_W) => ∃ (r_x : Int32), r9 = r_x ∧ u9 = []) := by
  refine Ci.ofQ (by decide) (Nat.le_of_ble_eq_true rfl) ?_
  intro p e s m below meth c ls A args Q hQ B hw hl
  have C : CallFix p m c cX4_cell 2 s args gw "LanternState$Picture" := B.1
  have hl : lv_has ls 2 [(0, .int a1), (1, .int a2)] := hl
  refine lv_iconst (v := 1) C.1 C.2.1 dX4_cell_0 (by decide) ?_
  refine lv_iconst (v := 4) C.1 C.2.1 dX4_cell_1 (by decide) ?_
  refine lv_iload_n C.1 C.2.1 dX4_cell_2 rfl (lv_at hl 1 rfl) ?_
  refine lv_imul C.1 C.2.1 dX4_cell_3 (x_gen (fun v1 => ?_))
  refine lv_iload_n C.1 C.2.1 dX4_cell_4 rfl (lv_at hl 0 rfl) ?_
  refine lv_iadd C.1 C.2.1 dX4_cell_5 (x_gen (fun v2 => ?_))
  refine lv_ishl C.1 C.2.1 dX4_cell_6 (x_gen (fun v3 => ?_))
  exact x_retiQ hQ B hw ⟨v3, rfl, rfl⟩ (Nat.le_of_ble_eq_true rfl) (Nat.le_of_ble_eq_true rfl) dX4_cell_7
set_option maxHeartbeats 4000000 in
set_option maxRecDepth 100000 in
theorem s_X4_mirror {l : Launch} {G : Gc} (a1 : Int32)  : Ci l yX4_mirror cX4_mirror 1 (some .int) 0 0 0 G [.int a1] [] (fun (r9 : Int32) (u9 : va_W) => ∃ (r_x : Int32), r9 = r_x ∧ u9 = []) := by
  refine Ci.ofQ (by decide) (Nat.le_of_ble_eq_true rfl) ?_
  intro p e s m below meth c ls A args Q hQ B hw hl
  have C : CallFix p m c cX4_mirror 1 s args gw "LanternState$Picture" := B.1
  have hl : lv_has ls 1 [(0, .int a1)] := hl
  refine lv_iload_n C.1 C.2.1 dX4_mirror_0 rfl (lv_at hl 0 rfl) ?_
  refine lv_sipush (v := 4369) C.1 C.2.1 dX4_mirror_1 (by decide) ?_
  refine lv_iand C.1 C.2.1 dX4_mirror_4 (x_gen (fun v1 => ?_))
  refine lv_iconst (v := 3) C.1 C.2.1 dX4_mirror_5 (by decide) ?_
  refine lv_ishl C.1 C.2.1 dX4_mirror_6 (x_gen (fun v2 => ?_))
  refine lv_iload_n C.1 C.2.1 dX4_mirror_7 rfl (lv_at hl 0 rfl) ?_
  refine lv_sipush (v := 8738) C.1 C.2.1 dX4_mirror_8 (by decide) ?_
  refine lv_iand C.1 C.2.1 dX4_mirror_11 (x_gen (fun v3 => ?_))
  refine lv_iconst (v := 1) C.1 C.2.1 dX4_mirror_12 (by decide) ?_
  refine lv_ishl C.1 C.2.1 dX4_mirror_13 (x_gen (fun v4 => ?_))
  refine lv_ior C.1 C.2.1 dX4_mirror_14 (x_gen (fun v5 => ?_))
  refine lv_iload_n C.1 C.2.1 dX4_mirror_15 rfl (lv_at hl 0 rfl) ?_
  refine lv_sipush (v := 17476) C.1 C.2.1 dX4_mirror_16 (by decide) ?_
  refine lv_iand C.1 C.2.1 dX4_mirror_19 (x_gen (fun v6 => ?_))
  refine lv_iconst (v := 1) C.1 C.2.1 dX4_mirror_20 (by decide) ?_
  refine lv_ishr C.1 C.2.1 dX4_mirror_21 (x_gen (fun v7 => ?_))
  refine lv_ior C.1 C.2.1 dX4_mirror_22 (x_gen (fun v8 => ?_))
  refine lv_iload_n C.1 C.2.1 dX4_mirror_23 rfl (lv_at hl 0 rfl) ?_
  refine lv_ldc (v := 34952) C.1 C.2.1 C.2.2.2.1 (C.2.2.2.2 _ kw578) dX4_mirror_24 ?_
  refine lv_iand C.1 C.2.1 dX4_mirror_26 (x_gen (fun v9 => ?_))
  refine lv_iconst (v := 3) C.1 C.2.1 dX4_mirror_27 (by decide) ?_
  refine lv_ishr C.1 C.2.1 dX4_mirror_28 (x_gen (fun v10 => ?_))
  refine lv_ior C.1 C.2.1 dX4_mirror_29 (x_gen (fun v11 => ?_))
  exact x_retiQ hQ B hw ⟨v11, rfl, rfl⟩ (Nat.le_of_ble_eq_true rfl) (Nat.le_of_ble_eq_true rfl) dX4_mirror_30
theorem dX4_flip_0 : decode cX4_flip 0 = .ok (.iload_n 0, 1) := by decide +kernel
theorem dX4_flip_1 : decode cX4_flip 1 = .ok (.bipush 15, 2) := by decide +kernel
theorem dX4_flip_3 : decode cX4_flip 3 = .ok (.iand, 1) := by decide +kernel
theorem dX4_flip_4 : decode cX4_flip 4 = .ok (.bipush 12, 2) := by decide +kernel
theorem dX4_flip_6 : decode cX4_flip 6 = .ok (.ishl, 1) := by decide +kernel
theorem dX4_flip_7 : decode cX4_flip 7 = .ok (.iload_n 0, 1) := by decide +kernel
theorem dX4_flip_8 : decode cX4_flip 8 = .ok (.sipush 240, 3) := by decide +kernel
theorem dX4_flip_11 : decode cX4_flip 11 = .ok (.iand, 1) := by decide +kernel
theorem dX4_flip_12 : decode cX4_flip 12 = .ok (.iconst 4, 1) := by decide +kernel
theorem dX4_flip_13 : decode cX4_flip 13 = .ok (.ishl, 1) := by decide +kernel
theorem dX4_flip_14 : decode cX4_flip 14 = .ok (.ior, 1) := by decide +kernel
theorem dX4_flip_15 : decode cX4_flip 15 = .ok (.iload_n 0, 1) := by decide +kernel
theorem dX4_flip_16 : decode cX4_flip 16 = .ok (.sipush 3840, 3) := by decide +kernel
theorem dX4_flip_19 : decode cX4_flip 19 = .ok (.iand, 1) := by decide +kernel
theorem dX4_flip_20 : decode cX4_flip 20 = .ok (.iconst 4, 1) := by decide +kernel
theorem dX4_flip_21 : decode cX4_flip 21 = .ok (.ishr, 1) := by decide +kernel
theorem dX4_flip_22 : decode cX4_flip 22 = .ok (.ior, 1) := by decide +kernel
theorem dX4_flip_23 : decode cX4_flip 23 = .ok (.iload_n 0, 1) := by decide +kernel
theorem dX4_flip_24 : decode cX4_flip 24 = .ok (.ldc 16, 2) := by decide +kernel
theorem dX4_flip_26 : decode cX4_flip 26 = .ok (.iand, 1) := by decide +kernel
theorem dX4_flip_27 : decode cX4_flip 27 = .ok (.bipush 12, 2) := by decide +kernel
theorem dX4_flip_29 : decode cX4_flip 29 = .ok (.ishr, 1) := by decide +kernel
theorem dX4_flip_30 : decode cX4_flip 30 = .ok (.ior, 1) := by decide +kernel
theorem dX4_flip_31 : decode cX4_flip 31 = .ok (.ireturn, 1) := by decide +kernel
set_option maxHeartbeats 4000000 in
set_option maxRecDepth 100000 in
theorem s_X4_flip {l : Launch} {G : Gc} (a1 : Int32)  : Ci l yX4_flip cX4_flip 1 (some .int) 0 0 0 G [.int a1] [] (fun (r9 : Int32) (u9 : va_W) => ∃ (r_x : Int32), r9 = r_x ∧ u9 = []) := by
  refine Ci.ofQ (by decide) (Nat.le_of_ble_eq_true rfl) ?_
  intro p e s m below meth c ls A args Q hQ B hw hl
  have C : CallFix p m c cX4_flip 1 s args gw "LanternState$Picture" := B.1
  have hl : lv_has ls 1 [(0, .int a1)] := hl
  refine lv_iload_n C.1 C.2.1 dX4_flip_0 rfl (lv_at hl 0 rfl) ?_
  refine lv_bipush (v := 15) C.1 C.2.1 dX4_flip_1 (by decide) ?_
  refine lv_iand C.1 C.2.1 dX4_flip_3 (x_genP (fun z : Int32 => 0 ≤ z.toInt ∧ z.toInt ≤ 15) (i_andR 4 rfl (by decide) rfl) (fun v1 hv1 => ?_))
  refine lv_bipush (v := 12) C.1 C.2.1 dX4_flip_4 (by decide) ?_
  refine lv_ishl C.1 C.2.1 dX4_flip_6 (x_gen (fun v2 => ?_))
  refine lv_iload_n C.1 C.2.1 dX4_flip_7 rfl (lv_at hl 0 rfl) ?_
  refine lv_sipush (v := 240) C.1 C.2.1 dX4_flip_8 (by decide) ?_
  refine lv_iand C.1 C.2.1 dX4_flip_11 (x_gen (fun v3 => ?_))
  refine lv_iconst (v := 4) C.1 C.2.1 dX4_flip_12 (by decide) ?_
  refine lv_ishl C.1 C.2.1 dX4_flip_13 (x_gen (fun v4 => ?_))
  refine lv_ior C.1 C.2.1 dX4_flip_14 (x_gen (fun v5 => ?_))
  refine lv_iload_n C.1 C.2.1 dX4_flip_15 rfl (lv_at hl 0 rfl) ?_
  refine lv_sipush (v := 3840) C.1 C.2.1 dX4_flip_16 (by decide) ?_
  refine lv_iand C.1 C.2.1 dX4_flip_19 (x_gen (fun v6 => ?_))
  refine lv_iconst (v := 4) C.1 C.2.1 dX4_flip_20 (by decide) ?_
  refine lv_ishr C.1 C.2.1 dX4_flip_21 (x_gen (fun v7 => ?_))
  refine lv_ior C.1 C.2.1 dX4_flip_22 (x_gen (fun v8 => ?_))
  refine lv_iload_n C.1 C.2.1 dX4_flip_23 rfl (lv_at hl 0 rfl) ?_
  refine lv_ldc (v := 61440) C.1 C.2.1 C.2.2.2.1 (C.2.2.2.2 _ kw668) dX4_flip_24 ?_
  refine lv_iand C.1 C.2.1 dX4_flip_26 (x_gen (fun v9 => ?_))
  refine lv_bipush (v := 12) C.1 C.2.1 dX4_flip_27 (by decide) ?_
  refine lv_ishr C.1 C.2.1 dX4_flip_29 (x_gen (fun v10 => ?_))
  refine lv_ior C.1 C.2.1 dX4_flip_30 (x_gen (fun v11 => ?_))
  exact x_retiQ hQ B hw ⟨v11, rfl, rfl⟩ (Nat.le_of_ble_eq_true rfl) (Nat.le_of_ble_eq_true rfl) dX4_flip_31
set_option maxHeartbeats 4000000 in
set_option maxRecDepth 100000 in
theorem s_X4_ofRow {l : Launch} {G : Gc} (a1 : Int32) (a2 : Int32)  : Ci l yX4_ofRow cX4_ofRow 2 (some .int) 1 0 0 G [.int a1, .int a2] [] (fun (r9 : Int32) (u9 : va_W) => ∃ (r_x : Int32), r9 = r_x ∧ u9 = []) := by
  refine Ci.ofQ (by decide) (Nat.le_of_ble_eq_true rfl) ?_
  intro p e s m below meth c ls A args Q hQ B hw hl
  have C : CallFix p m c cX4_ofRow 2 s args gw "LanternState$Picture" := B.1
  have hl : lv_has ls 2 [(0, .int a1), (1, .int a2)] := hl
  refine lv_iload_n C.1 C.2.1 dX4_ofRow_0 rfl (lv_at hl 0 rfl) ?_
  refine lv_bipush (v := 15) C.1 C.2.1 dX4_ofRow_1 (by decide) ?_
  refine lv_iand C.1 C.2.1 dX4_ofRow_3 (x_genP (fun z : Int32 => 0 ≤ z.toInt ∧ z.toInt ≤ 15) (i_andR 4 rfl (by decide) rfl) (fun v1 hv1 => ?_))
  refine x_calliS (As := [.int v1]) (rest := []) (wr := []) C hw (s_X4_mirror v1) mwX4_mirror kw575 [] [] rfl rfl rfl rfl (by decide) rfl hl.1 rfl (Nat.le_of_ble_eq_true rfl) ⟨(Nat.le_of_ble_eq_true rfl), (Nat.le_of_ble_eq_true rfl)⟩ ⟨(Nat.le_of_ble_eq_true rfl), (Nat.le_of_ble_eq_true rfl)⟩ dX4_ofRow_4 (fun r2 u9 H locs hp9 hw => ?_)
  obtain ⟨x3, rfl, rfl⟩ := hp9
  have hw : Wd G s A [] H _ := hw
  refine lv_iconst (v := 4) C.1 C.2.1 dX4_ofRow_7 (by decide) ?_
  refine lv_iload_n C.1 C.2.1 dX4_ofRow_8 rfl (lv_at hl 1 rfl) ?_
  refine lv_imul C.1 C.2.1 dX4_ofRow_9 (x_gen (fun v4 => ?_))
  refine lv_ishl C.1 C.2.1 dX4_ofRow_10 (x_gen (fun v5 => ?_))
  exact x_retiQ hQ B hw ⟨v5, rfl, rfl⟩ (Nat.le_of_ble_eq_true rfl) (Nat.le_of_ble_eq_true rfl) dX4_ofRow_11
theorem dX4_rowOf_0 : decode cX4_rowOf 0 = .ok (.iload_n 0, 1) := by decide +kernel
theorem dX4_rowOf_1 : decode cX4_rowOf 1 = .ok (.iconst 4, 1) := by decide +kernel
theorem dX4_rowOf_2 : decode cX4_rowOf 2 = .ok (.iload_n 1, 1) := by decide +kernel
theorem dX4_rowOf_3 : decode cX4_rowOf 3 = .ok (.imul, 1) := by decide +kernel
theorem dX4_rowOf_4 : decode cX4_rowOf 4 = .ok (.ishr, 1) := by decide +kernel
theorem dX4_rowOf_5 : decode cX4_rowOf 5 = .ok (.bipush 15, 2) := by decide +kernel
theorem dX4_rowOf_7 : decode cX4_rowOf 7 = .ok (.iand, 1) := by decide +kernel
theorem dX4_rowOf_8 : decode cX4_rowOf 8 = .ok (.invokestatic 9, 3) := by decide +kernel
theorem dX4_rowOf_11 : decode cX4_rowOf 11 = .ok (.ireturn, 1) := by decide +kernel
set_option maxHeartbeats 4000000 in
set_option maxRecDepth 100000 in
theorem s_X4_rowOf {l : Launch} {G : Gc} (a1 : Int32) (a2 : Int32)  : Ci l yX4_rowOf cX4_rowOf 2 (some .int) 1 0 0 G [.int a1, .int a2] [] (fun (r9 : Int32) (u9 : va_W) => ∃ (r_x : Int32), r9 = r_x ∧ u9 = []) := by
  refine Ci.ofQ (by decide) (Nat.le_of_ble_eq_true rfl) ?_
  intro p e s m below meth c ls A args Q hQ B hw hl
  have C : CallFix p m c cX4_rowOf 2 s args gw "LanternState$Picture" := B.1
  have hl : lv_has ls 2 [(0, .int a1), (1, .int a2)] := hl
  refine lv_iload_n C.1 C.2.1 dX4_rowOf_0 rfl (lv_at hl 0 rfl) ?_
  refine lv_iconst (v := 4) C.1 C.2.1 dX4_rowOf_1 (by decide) ?_
  refine lv_iload_n C.1 C.2.1 dX4_rowOf_2 rfl (lv_at hl 1 rfl) ?_
  refine lv_imul C.1 C.2.1 dX4_rowOf_3 (x_gen (fun v1 => ?_))
  refine lv_ishr C.1 C.2.1 dX4_rowOf_4 (x_gen (fun v2 => ?_))
  refine lv_bipush (v := 15) C.1 C.2.1 dX4_rowOf_5 (by decide) ?_
  refine lv_iand C.1 C.2.1 dX4_rowOf_7 (x_genP (fun z : Int32 => 0 ≤ z.toInt ∧ z.toInt ≤ 15) (i_andR 4 rfl (by decide) rfl) (fun v3 hv3 => ?_))
  refine x_calliS (As := [.int v3]) (rest := []) (wr := []) C hw (s_X4_mirror v3) mwX4_mirror kw575 [] [] rfl rfl rfl rfl (by decide) rfl hl.1 rfl (Nat.le_of_ble_eq_true rfl) ⟨(Nat.le_of_ble_eq_true rfl), (Nat.le_of_ble_eq_true rfl)⟩ ⟨(Nat.le_of_ble_eq_true rfl), (Nat.le_of_ble_eq_true rfl)⟩ dX4_rowOf_8 (fun r4 u9 H locs hp9 hw => ?_)
  obtain ⟨x5, rfl, rfl⟩ := hp9
  have hw : Wd G s A [] H _ := hw
  exact x_retiQ hQ B hw ⟨r4, rfl, rfl⟩ (Nat.le_of_ble_eq_true rfl) (Nat.le_of_ble_eq_true rfl) dX4_rowOf_11
theorem dX4_turn_0 : decode cX4_turn 0 = .ok (.iload_n 1, 1) := by decide +kernel
theorem dX4_turn_1 : decode cX4_turn 1 = .ok (.tableswitch 45 1 3 #[27, 35, 40], 27) := by decide +kernel
theorem dX4_turn_28 : decode cX4_turn 28 = .ok (.iload_n 0, 1) := by decide +kernel
theorem dX4_turn_29 : decode cX4_turn 29 = .ok (.invokestatic 17, 3) := by decide +kernel
theorem mwX4_flip : MwS yX4_flip cX4_flip 1 (some .int) 1 := ⟨⟨kw667, kw16, by decide +kernel⟩, kw666⟩
theorem dX4_turn_32 : decode cX4_turn 32 = .ok (.invokestatic 9, 3) := by decide +kernel
theorem dX4_turn_35 : decode cX4_turn 35 = .ok (.ireturn, 1) := by decide +kernel
theorem dX4_turn_36 : decode cX4_turn 36 = .ok (.iload_n 0, 1) := by decide +kernel
theorem dX4_turn_37 : decode cX4_turn 37 = .ok (.invokestatic 9, 3) := by decide +kernel
theorem dX4_turn_40 : decode cX4_turn 40 = .ok (.ireturn, 1) := by decide +kernel
theorem dX4_turn_41 : decode cX4_turn 41 = .ok (.iload_n 0, 1) := by decide +kernel
theorem dX4_turn_42 : decode cX4_turn 42 = .ok (.invokestatic 17, 3) := by decide +kernel
theorem dX4_turn_45 : decode cX4_turn 45 = .ok (.ireturn, 1) := by decide +kernel
theorem dX4_turn_46 : decode cX4_turn 46 = .ok (.iload_n 0, 1) := by decide +kernel
theorem dX4_turn_47 : decode cX4_turn 47 = .ok (.ireturn, 1) := by decide +kernel
set_option maxHeartbeats 4000000 in
set_option maxRecDepth 100000 in
theorem s_X4_turn {l : Launch} {G : Gc} (a1 : Int32) (a2 : Int32)  : Ci l yX4_turn cX4_turn 2 (some .int) 1 0 0 G [.int a1, .int a2] [] (fun (r9 : Int32) (u9 : va_W) => ∃ (r_x : Int32), r9 = r_x ∧ u9 = []) := by
  refine Ci.ofQ (by decide) (Nat.le_of_ble_eq_true rfl) ?_
  intro p e s m below meth c ls A args Q hQ B hw hl
  have C : CallFix p m c cX4_turn 2 s args gw "LanternState$Picture" := B.1
  have hl : lv_has ls 2 [(0, .int a1), (1, .int a2)] := hl
  refine lv_iload_n C.1 C.2.1 dX4_turn_0 rfl (lv_at hl 1 rfl) ?_
  have k1 : a2.toInt = 1 ∨ a2.toInt = 2 ∨ a2.toInt = 3 ∨ (a2.toInt ≠ 1 ∧ a2.toInt ≠ 2 ∧ a2.toInt ≠ 3) := by omega
  rcases k1 with k1 | k1 | k1 | k1
  · skip
    have k1 : a2 = 1 := Int32.toInt_inj.mp (by rw [k1]; rfl)
    refine x_topi (z := 1) k1 ?_
    refine lv_tableIn (off := 27) (tgt := 28) C.1 C.2.1 dX4_turn_1 (by decide) (by decide) rfl (by decide) ?_
    have ha2_ := congrArg Int32.toInt k1
    have ha2_ : a2.toInt = 1 := ha2_
    refine lv_iload_n C.1 C.2.1 dX4_turn_28 rfl (lv_at hl 0 rfl) ?_
    refine x_calliS (As := [.int a1]) (rest := []) (wr := []) C hw (s_X4_flip a1) mwX4_flip kw665 [] [] rfl rfl rfl rfl (by decide) rfl hl.1 rfl (Nat.le_of_ble_eq_true rfl) ⟨(Nat.le_of_ble_eq_true rfl), (Nat.le_of_ble_eq_true rfl)⟩ ⟨(Nat.le_of_ble_eq_true rfl), (Nat.le_of_ble_eq_true rfl)⟩ dX4_turn_29 (fun r2 u9 H locs hp9 hw => ?_)
    obtain ⟨x3, rfl, rfl⟩ := hp9
    have hw : Wd G s A [] H _ := hw
    refine x_calliS (As := [.int r2]) (rest := []) (wr := []) C hw (s_X4_mirror r2) mwX4_mirror kw575 [] [] rfl rfl rfl rfl (by decide) rfl hl.1 rfl (Nat.le_of_ble_eq_true rfl) ⟨(Nat.le_of_ble_eq_true rfl), (Nat.le_of_ble_eq_true rfl)⟩ ⟨(Nat.le_of_ble_eq_true rfl), (Nat.le_of_ble_eq_true rfl)⟩ dX4_turn_32 (fun r4 u9 H locs hp9 hw => ?_)
    obtain ⟨x5, rfl, rfl⟩ := hp9
    have hw : Wd G s A [] H _ := hw
    exact x_retiQ hQ B hw ⟨r4, rfl, rfl⟩ (Nat.le_of_ble_eq_true rfl) (Nat.le_of_ble_eq_true rfl) dX4_turn_35
  · skip
    have k1 : a2 = 2 := Int32.toInt_inj.mp (by rw [k1]; rfl)
    refine x_topi (z := 2) k1 ?_
    refine lv_tableIn (off := 35) (tgt := 36) C.1 C.2.1 dX4_turn_1 (by decide) (by decide) rfl (by decide) ?_
    have ha2_ := congrArg Int32.toInt k1
    have ha2_ : a2.toInt = 2 := ha2_
    refine lv_iload_n C.1 C.2.1 dX4_turn_36 rfl (lv_at hl 0 rfl) ?_
    refine x_calliS (As := [.int a1]) (rest := []) (wr := []) C hw (s_X4_mirror a1) mwX4_mirror kw575 [] [] rfl rfl rfl rfl (by decide) rfl hl.1 rfl (Nat.le_of_ble_eq_true rfl) ⟨(Nat.le_of_ble_eq_true rfl), (Nat.le_of_ble_eq_true rfl)⟩ ⟨(Nat.le_of_ble_eq_true rfl), (Nat.le_of_ble_eq_true rfl)⟩ dX4_turn_37 (fun r6 u9 H locs hp9 hw => ?_)
    obtain ⟨x7, rfl, rfl⟩ := hp9
    have hw : Wd G s A [] H _ := hw
    exact x_retiQ hQ B hw ⟨r6, rfl, rfl⟩ (Nat.le_of_ble_eq_true rfl) (Nat.le_of_ble_eq_true rfl) dX4_turn_40
  · skip
    have k1 : a2 = 3 := Int32.toInt_inj.mp (by rw [k1]; rfl)
    refine x_topi (z := 3) k1 ?_
    refine lv_tableIn (off := 40) (tgt := 41) C.1 C.2.1 dX4_turn_1 (by decide) (by decide) rfl (by decide) ?_
    have ha2_ := congrArg Int32.toInt k1
    have ha2_ : a2.toInt = 3 := ha2_
    refine lv_iload_n C.1 C.2.1 dX4_turn_41 rfl (lv_at hl 0 rfl) ?_
    refine x_calliS (As := [.int a1]) (rest := []) (wr := []) C hw (s_X4_flip a1) mwX4_flip kw665 [] [] rfl rfl rfl rfl (by decide) rfl hl.1 rfl (Nat.le_of_ble_eq_true rfl) ⟨(Nat.le_of_ble_eq_true rfl), (Nat.le_of_ble_eq_true rfl)⟩ ⟨(Nat.le_of_ble_eq_true rfl), (Nat.le_of_ble_eq_true rfl)⟩ dX4_turn_42 (fun r8 u9 H locs hp9 hw => ?_)
    obtain ⟨x9, rfl, rfl⟩ := hp9
    have hw : Wd G s A [] H _ := hw
    exact x_retiQ hQ B hw ⟨r8, rfl, rfl⟩ (Nat.le_of_ble_eq_true rfl) (Nat.le_of_ble_eq_true rfl) dX4_turn_45
  · skip
    refine lv_tableOut (tgt := 46) C.1 C.2.1 dX4_turn_1 (by omega) (by decide) ?_
    refine lv_iload_n C.1 C.2.1 dX4_turn_46 rfl (lv_at hl 0 rfl) ?_
    exact x_retiQ hQ B hw ⟨a1, rfl, rfl⟩ (Nat.le_of_ble_eq_true rfl) (Nat.le_of_ble_eq_true rfl) dX4_turn_47
theorem dX4_looks_0 : decode cX4_looks 0 = .ok (.iconst 0, 1) := by decide +kernel
theorem dX4_looks_1 : decode cX4_looks 1 = .ok (.istore_n 3, 1) := by decide +kernel
theorem dX4_looks_2 : decode cX4_looks 2 = .ok (.iload_n 3, 1) := by decide +kernel
theorem dX4_looks_3 : decode cX4_looks 3 = .ok (.iconst 4, 1) := by decide +kernel
theorem dX4_looks_4 : decode cX4_looks 4 = .ok (.if_icmp .ge 22, 3) := by decide +kernel
theorem dX4_looks_7 : decode cX4_looks 7 = .ok (.iload_n 0, 1) := by decide +kernel
theorem dX4_looks_8 : decode cX4_looks 8 = .ok (.iload_n 3, 1) := by decide +kernel
theorem dX4_looks_9 : decode cX4_looks 9 = .ok (.invokestatic 20, 3) := by decide +kernel
theorem mwX4_turn : MwS yX4_turn cX4_turn 2 (some .int) 2 := ⟨⟨kw664, kw16, by decide +kernel⟩, kw663⟩
theorem dX4_looks_12 : decode cX4_looks 12 = .ok (.iload_n 1, 1) := by decide +kernel
theorem dX4_looks_13 : decode cX4_looks 13 = .ok (.iand, 1) := by decide +kernel
theorem dX4_looks_14 : decode cX4_looks 14 = .ok (.iload_n 2, 1) := by decide +kernel
theorem dX4_looks_15 : decode cX4_looks 15 = .ok (.if_icmp .ne 5, 3) := by decide +kernel
theorem dX4_looks_20 : decode cX4_looks 20 = .ok (.iinc 3 1, 3) := by decide +kernel
theorem dX4_looks_23 : decode cX4_looks 23 = .ok (.goto (-21), 3) := by decide +kernel
theorem dX4_looks_18 : decode cX4_looks 18 = .ok (.iconst 1, 1) := by decide +kernel
theorem dX4_looks_19 : decode cX4_looks 19 = .ok (.ireturn, 1) := by decide +kernel
theorem dX4_looks_26 : decode cX4_looks 26 = .ok (.iconst 0, 1) := by decide +kernel
theorem dX4_looks_27 : decode cX4_looks 27 = .ok (.ireturn, 1) := by decide +kernel
set_option maxHeartbeats 4000000 in
set_option maxRecDepth 100000 in
theorem s_X4_looks {l : Launch} {G : Gc} (a1 : Int32) (a2 : Int32) (a3 : Int32)  : Ci l yX4_looks cX4_looks 4 (some .boolean) 2 0 0 G [.int a1, .int a2, .int a3] [] (fun (r9 : Int32) (u9 : va_W) => (r9 = 0 ∧ u9 = []) ∨ (r9 = 1 ∧ u9 = [])) := by
  refine Ci.ofQ (by decide) (Nat.le_of_ble_eq_true rfl) ?_
  intro p e s m below meth c ls A args Q hQ B hw hl
  have C : CallFix p m c cX4_looks 4 s args gw "LanternState$Picture" := B.1
  have hl : lv_has ls 4 [(0, .int a1), (1, .int a2), (2, .int a3)] := hl
  refine lv_iconst (v := 0) C.1 C.2.1 dX4_looks_0 (by decide) ?_
  refine lv_istore_n (lv' := [(3, .int 0), (0, .int a1), (1, .int a2), (2, .int a3)]) C.1 C.2.1 dX4_looks_1 rfl hl (by decide) rfl (fun ls hl => ?_)
  have loopJ31 : ∀ (n9 : Nat) (j30 : Int32), (2147483647 - j30.toInt).toNat < n9 → (0 ≤ j30.toInt ∧ j30.toInt ≤ 4) → ∀ (H : Heap) (locs : List Loc) (ls : Array Slot), Wd G s A [] H locs → lv_has ls 4 [(3, .int j30), (0, .int a1), (1, .int a2), (2, .int a3)] → W p l e (rmD 2 0 0) s m args below meth c H locs 0 0 Q (F0 m 2 ls []) := by
    intro n9
    induction n9 with
    | zero => intro j30 h9; exact absurd h9 (Nat.not_lt_zero _)
    | succ n9 ihJ31 =>
      intro j30 h9J31 hJ31_0 H locs ls hw hl
      have hbj30 := i_bd j30
      refine lv_iload_n C.1 C.2.1 dX4_looks_2 rfl (lv_at hl 0 rfl) ?_
      refine lv_iconst (v := 4) C.1 C.2.1 dX4_looks_3 (by decide) ?_
      refine lv_icmp_ge (tgt := 26) C.1 C.2.1 dX4_looks_4 (by decide) (fun c40 => ?_) (fun c40 => ?_)
      · skip
        have c40 : 4 ≤ j30.toInt := i_leT (X := 4) (Y := j30.toInt) rfl rfl c40
        refine lv_iconst (v := 0) C.1 C.2.1 dX4_looks_26 (by decide) ?_
        exact x_retzQ hQ B hw rfl (Or.inl ⟨rfl, rfl⟩) (Nat.le_of_ble_eq_true rfl) (Nat.le_of_ble_eq_true rfl) dX4_looks_27
      · skip
        have c40 : j30.toInt < 4 := i_leF (X := 4) (Y := j30.toInt) rfl rfl c40
        refine lv_iload_n C.1 C.2.1 dX4_looks_7 rfl (lv_at hl 1 rfl) ?_
        refine lv_iload_n C.1 C.2.1 dX4_looks_8 rfl (lv_at hl 0 rfl) ?_
        refine x_calliS (As := [.int a1, .int j30]) (rest := []) (wr := []) C hw (s_X4_turn a1 j30) mwX4_turn kw880 [] [] rfl rfl rfl rfl (by decide) rfl hl.1 rfl (Nat.le_of_ble_eq_true rfl) ⟨(Nat.le_of_ble_eq_true rfl), (Nat.le_of_ble_eq_true rfl)⟩ ⟨(Nat.le_of_ble_eq_true rfl), (Nat.le_of_ble_eq_true rfl)⟩ dX4_looks_9 (fun r41 u9 H locs hp9 hw => ?_)
        obtain ⟨x42, rfl, rfl⟩ := hp9
        have hw : Wd G s A [] H _ := hw
        refine lv_iload_n C.1 C.2.1 dX4_looks_12 rfl (lv_at hl 2 rfl) ?_
        refine lv_iand C.1 C.2.1 dX4_looks_13 (x_gen (fun v43 => ?_))
        refine lv_iload_n C.1 C.2.1 dX4_looks_14 rfl (lv_at hl 3 rfl) ?_
        refine lv_icmp_ne (tgt := 20) C.1 C.2.1 dX4_looks_15 (by decide) (fun c44 => ?_) (fun c44 => ?_)
        · skip
          have c44 : v43.toInt ≠ a3.toInt := i_eqF (X := v43.toInt) (Y := a3.toInt) rfl rfl c44
          have bc44_v43 := i_bd v43
          have bc44_a3 := i_bd a3
          obtain ⟨v45, ev45⟩ : ∃ z : Int32, j30 + 1 = z := ⟨_, rfl⟩
          have hv45 : v45.toInt = j30.toInt + 1 := by rw [← ev45]; exact i_add rfl rfl (by omega) (by omega)
          refine lv_iinc (v := v45) (lv' := [(3, .int v45), (0, .int a1), (1, .int a2), (2, .int a3)]) C.1 C.2.1 dX4_looks_20 hl (k := 0) rfl ev45 (by decide) rfl (fun ls hl => ?_)
          refine lv_goto (tgt := 2) C.1 C.2.1 dX4_looks_23 (by decide) ?_
          exact ihJ31 v45 (by omega) (by omega) _ _ _ hw (lv_sub hl [0, 1, 2, 3] rfl)
        · skip
          have c44 : v43.toInt = a3.toInt := i_eqT (X := v43.toInt) (Y := a3.toInt) rfl rfl c44
          have bc44_v43 := i_bd v43
          have bc44_a3 := i_bd a3
          refine lv_iconst (v := 1) C.1 C.2.1 dX4_looks_18 (by decide) ?_
          exact x_retzQ hQ B hw rfl (Or.inr ⟨rfl, rfl⟩) (Nat.le_of_ble_eq_true rfl) (Nat.le_of_ble_eq_true rfl) dX4_looks_19
  exact loopJ31 _ 0 (Nat.lt_succ_self _) (by decide) _ _ _ hw (lv_sub hl [0, 1, 2, 3] rfl)
