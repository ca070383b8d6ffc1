theorem dJ3_checkIndex_8e157_0 : decode cJ3_checkIndex_8e157 0 = .ok (.iload_n 0, 1) := by decide +kernel
theorem dJ3_checkIndex_8e157_1 : decode cJ3_checkIndex_8e157 1 = .ok (.ifCond .lt 8, 3) := by decide +kernel
theorem dJ3_checkIndex_8e157_4 : decode cJ3_checkIndex_8e157 4 = .ok (.iload_n 0, 1) := by decide +kernel
theorem dJ3_checkIndex_8e157_5 : decode cJ3_checkIndex_8e157 5 = .ok (.iload_n 1, 1) := by decide +kernel
theorem dJ3_checkIndex_8e157_6 : decode cJ3_checkIndex_8e157 6 = .ok (.if_icmp .lt 10, 3) := by decide +kernel
theorem dJ3_checkIndex_8e157_16 : decode cJ3_checkIndex_8e157 16 = .ok (.iload_n 0, 1) := by decide +kernel
theorem dJ3_checkIndex_8e157_17 : decode cJ3_checkIndex_8e157 17 = .ok (.ireturn, 1) := by decide +kernel
set_option maxHeartbeats 4000000 in
set_option maxRecDepth 100000 in
theorem c_J3_checkIndexN {l : Launch} {G : Gc} (k9 : Nat) (n9 : Nat) (hk9 : k9 < n9) (hn9 : n9 < 2 ^ 31) : Ci l yJ3_checkIndex_8e157 cJ3_checkIndex_8e157 3 (some .int) 0 0 0 G [.int (nI k9), .int (nI n9), .null] [] (fun (r9 : Int32) (u9 : va_W) => r9 = (nI k9) ∧ u9 = []) := by
  refine Ci.of (by decide) (Nat.le_of_ble_eq_true rfl) ?_
  intro p e s m below meth c ls A B hw hl
  have C : CallFix p m c cJ3_checkIndex_8e157 3 s _ gw "jdk/internal/util/Preconditions" := B.1
  have hl : lv_has ls 3 [(0, .int (nI k9)), (1, .int (nI n9)), (2, .null)] := hl
  refine lv_iload_n C.1 C.2.1 dJ3_checkIndex_8e157_0 rfl (lv_at hl 0 rfl) ?_
  refine lv_if_lt (tgt := 9) C.1 C.2.1 dJ3_checkIndex_8e157_1 (by decide) (fun h9 => absurd h9 (nI_pos (by omega))) (fun _ => ?_)
  refine lv_iload_n C.1 C.2.1 dJ3_checkIndex_8e157_4 rfl (lv_at hl 0 rfl) ?_
  refine lv_iload_n C.1 C.2.1 dJ3_checkIndex_8e157_5 rfl (lv_at hl 1 rfl) ?_
  refine lv_icmp_lt (tgt := 16) C.1 C.2.1 dJ3_checkIndex_8e157_6 (by decide) (fun _ => ?_) (fun h9 => absurd (nI_lt hk9 hn9) h9)
  refine lv_iload_n C.1 C.2.1 dJ3_checkIndex_8e157_16 rfl (lv_at hl 0 rfl) ?_
  exact x_reti B hw ⟨rfl, rfl⟩ (Nat.le_of_ble_eq_true rfl) (Nat.le_of_ble_eq_true rfl) dJ3_checkIndex_8e157_17
set_option maxHeartbeats 4000000 in
set_option maxRecDepth 100000 in
theorem c_J3_checkIndexR {l : Launch} {G : Gc} (k9 : Nat) (n9 : Nat) (t9 : Nat) (hk9 : k9 < n9) (hn9 : n9 < 2 ^ 31) : Ci l yJ3_checkIndex_8e157 cJ3_checkIndex_8e157 3 (some .int) 0 0 0 G [.int (nI k9), .int (nI n9), .ref t9] [] (fun (r9 : Int32) (u9 : va_W) => r9 = (nI k9) ∧ u9 = []) := by
  refine Ci.of (by decide) (Nat.le_of_ble_eq_true rfl) ?_
  intro p e s m below meth c ls A B hw hl
  have C : CallFix p m c cJ3_checkIndex_8e157 3 s _ gw "jdk/internal/util/Preconditions" := B.1
  have hl : lv_has ls 3 [(0, .int (nI k9)), (1, .int (nI n9)), (2, .ref t9)] := hl
  refine lv_iload_n C.1 C.2.1 dJ3_checkIndex_8e157_0 rfl (lv_at hl 0 rfl) ?_
  refine lv_if_lt (tgt := 9) C.1 C.2.1 dJ3_checkIndex_8e157_1 (by decide) (fun h9 => absurd h9 (nI_pos (by omega))) (fun _ => ?_)
  refine lv_iload_n C.1 C.2.1 dJ3_checkIndex_8e157_4 rfl (lv_at hl 0 rfl) ?_
  refine lv_iload_n C.1 C.2.1 dJ3_checkIndex_8e157_5 rfl (lv_at hl 1 rfl) ?_
  refine lv_icmp_lt (tgt := 16) C.1 C.2.1 dJ3_checkIndex_8e157_6 (by decide) (fun _ => ?_) (fun h9 => absurd (nI_lt hk9 hn9) h9)
  refine lv_iload_n C.1 C.2.1 dJ3_checkIndex_8e157_16 rfl (lv_at hl 0 rfl) ?_
  exact x_reti B hw ⟨rfl, rfl⟩ (Nat.le_of_ble_eq_true rfl) (Nat.le_of_ble_eq_true rfl) dJ3_checkIndex_8e157_17
theorem dJ0_checkIndex_df160_0 : decode cJ0_checkIndex_df160 0 = .ok (.iload_n 0, 1) := by decide +kernel
theorem dJ0_checkIndex_df160_1 : decode cJ0_checkIndex_df160 1 = .ok (.iload_n 1, 1) := by decide +kernel
theorem dJ0_checkIndex_df160_2 : decode cJ0_checkIndex_df160 2 = .ok (.getstatic 1053, 3) := by decide +kernel
theorem dJ0_checkIndex_df160_5 : decode cJ0_checkIndex_df160 5 = .ok (.invokestatic 1059, 3) := by decide +kernel
theorem mwJ3_checkIndex_8e157 : MwS yJ3_checkIndex_8e157 cJ3_checkIndex_8e157 3 (some .int) 3 := ⟨⟨kw67, kw5, by decide +kernel⟩, kw66⟩
theorem dJ0_checkIndex_df160_8 : decode cJ0_checkIndex_df160 8 = .ok (.pop, 1) := by decide +kernel
theorem dJ0_checkIndex_df160_9 : decode cJ0_checkIndex_df160 9 = .ok (.return_, 1) := by decide +kernel
set_option maxHeartbeats 4000000 in
set_option maxRecDepth 100000 in
theorem c_J0_checkIndex {l : Launch} {G : Gc} (k9 : Nat) (n9 : Nat) (hk9 : k9 < n9) (hn9 : n9 < 2 ^ 31) : Cv l yJ0_checkIndex_df160 cJ0_checkIndex_df160 2 1 0 0 G [.int (nI k9), .int (nI n9)] [] (fun (u9 : va_W) => u9 = []) := by
  refine Cv.of (by decide) (Nat.le_of_ble_eq_true rfl) ?_
  intro p e s m below meth c ls A B hw hl
  have C : CallFix p m c cJ0_checkIndex_df160 2 s _ gw "java/lang/String" := B.1
  have hl : lv_has ls 2 [(0, .int (nI k9)), (1, .int (nI n9))] := hl
  refine lv_iload_n C.1 C.2.1 dJ0_checkIndex_df160_0 rfl (lv_at hl 0 rfl) ?_
  refine lv_iload_n C.1 C.2.1 dJ0_checkIndex_df160_1 rfl (lv_at hl 1 rfl) ?_
  rcases hw.2.2.2.2.2.2.2.1 with hz | ⟨t9, hz⟩
  · skip
    refine va_gets C.1 C.2.1 hz hw.2.2.2.1 C.2.2.2.1 (C.2.2.2.2 _ kw63) (fun _ h9 => h9) dJ0_checkIndex_df160_2 ?_
    refine x_calliS (As := [.int (nI k9), .int (nI n9), .null]) (rest := []) (wr := []) C hw (c_J3_checkIndexN k9 n9 hk9 hn9) mwJ3_checkIndex_8e157 kw65 [] [] rfl rfl rfl rfl (by decide) rfl hl.1 rfl (Nat.le_of_ble_eq_true rfl) ⟨(Nat.le_of_ble_eq_true rfl), (Nat.le_of_ble_eq_true rfl)⟩ ⟨(Nat.le_of_ble_eq_true rfl), (Nat.le_of_ble_eq_true rfl)⟩ dJ0_checkIndex_df160_5 (fun r1 u9 H locs hp9 hw => ?_)
    obtain ⟨rfl, rfl⟩ := hp9
    have hw : Wd G s A [] H _ := hw
    refine lv_pop C.1 C.2.1 dJ0_checkIndex_df160_8 rfl ?_
    exact x_retv B hw rfl (Nat.le_of_ble_eq_true rfl) (Nat.le_of_ble_eq_true rfl) dJ0_checkIndex_df160_9
  · skip
    refine va_gets C.1 C.2.1 hz hw.2.2.2.1 C.2.2.2.1 (C.2.2.2.2 _ kw63) (fun _ h9 => h9) dJ0_checkIndex_df160_2 ?_
    refine x_calliS (As := [.int (nI k9), .int (nI n9), .ref t9]) (rest := []) (wr := []) C hw (c_J3_checkIndexR k9 n9 t9 hk9 hn9) mwJ3_checkIndex_8e157 kw65 [] [] rfl rfl rfl rfl (by decide) rfl hl.1 rfl (Nat.le_of_ble_eq_true rfl) ⟨(Nat.le_of_ble_eq_true rfl), (Nat.le_of_ble_eq_true rfl)⟩ ⟨(Nat.le_of_ble_eq_true rfl), (Nat.le_of_ble_eq_true rfl)⟩ dJ0_checkIndex_df160_5 (fun r2 u9 H locs hp9 hw => ?_)
    obtain ⟨rfl, rfl⟩ := hp9
    have hw : Wd G s A [] H _ := hw
    refine lv_pop C.1 C.2.1 dJ0_checkIndex_df160_8 rfl ?_
    exact x_retv B hw rfl (Nat.le_of_ble_eq_true rfl) (Nat.le_of_ble_eq_true rfl) dJ0_checkIndex_df160_9
theorem dJ0_coder_7d493_0 : decode cJ0_coder_7d493 0 = .ok (.getstatic 38, 3) := by decide +kernel
theorem dJ0_coder_7d493_3 : decode cJ0_coder_7d493 3 = .ok (.ifCond .eq 10, 3) := by decide +kernel
theorem dJ0_coder_7d493_6 : decode cJ0_coder_7d493 6 = .ok (.aload_n 0, 1) := by decide +kernel
theorem dJ0_coder_7d493_7 : decode cJ0_coder_7d493 7 = .ok (.getfield 15, 3) := by decide +kernel
theorem dJ0_coder_7d493_10 : decode cJ0_coder_7d493 10 = .ok (.goto 4, 3) := by decide +kernel
theorem dJ0_coder_7d493_14 : decode cJ0_coder_7d493 14 = .ok (.ireturn, 1) := by decide +kernel
set_option maxHeartbeats 4000000 in
set_option maxRecDepth 100000 in
theorem c_J0_coder {l : Launch} {G : Gc} (i9 : Nat) (hi9 : i9 < 7) : Ci l yJ0_coder_7d493 cJ0_coder_7d493 1 (some .byte) 0 0 0 G [.ref (G.2.2.1 i9)] [] (fun (r9 : Int32) (u9 : va_W) => r9 = 0 ∧ u9 = []) := by
  refine Ci.of (by decide) (Nat.le_of_ble_eq_true rfl) ?_
  intro p e s m below meth c ls A B hw hl
  have C : CallFix p m c cJ0_coder_7d493 1 s _ gw "java/lang/String" := B.1
  have hl : lv_has ls 1 [(0, .ref (G.2.2.1 i9))] := hl
  refine va_gets C.1 C.2.1 hw.2.2.2.2.2.2.1 hw.2.2.2.1 C.2.2.2.1 (C.2.2.2.2 _ kw47) (fun _ h9 => h9) dJ0_coder_7d493_0 ?_
  refine lv_if_eq (tgt := 13) C.1 C.2.1 dJ0_coder_7d493_3 (by decide) (fun h9 => absurd h9 (by decide)) (fun _ => ?_)
  refine lv_aload_n C.1 C.2.1 dJ0_coder_7d493_6 rfl (lv_at hl 0 rfl) ?_
  refine vk_getf C.1 C.2.1 (hw.2.2.2.2.2.1.1 i9 hi9).2.1 hw.2.2.2.1 C.2.2.2.1 (C.2.2.2.2 _ kw1824) (fun _ h9 => h9) dJ0_coder_7d493_7 ?_
  refine lv_goto (tgt := 14) C.1 C.2.1 dJ0_coder_7d493_10 (by decide) ?_
  exact x_retz B hw rfl ⟨rfl, rfl⟩ (Nat.le_of_ble_eq_true rfl) (Nat.le_of_ble_eq_true rfl) dJ0_coder_7d493_14
theorem dJ0_isLatin1_aae02_0 : decode cJ0_isLatin1_aae02 0 = .ok (.getstatic 38, 3) := by decide +kernel
theorem dJ0_isLatin1_aae02_3 : decode cJ0_isLatin1_aae02 3 = .ok (.ifCond .eq 14, 3) := by decide +kernel
theorem dJ0_isLatin1_aae02_6 : decode cJ0_isLatin1_aae02 6 = .ok (.aload_n 0, 1) := by decide +kernel
theorem dJ0_isLatin1_aae02_7 : decode cJ0_isLatin1_aae02 7 = .ok (.getfield 15, 3) := by decide +kernel
theorem dJ0_isLatin1_aae02_10 : decode cJ0_isLatin1_aae02 10 = .ok (.ifCond .ne 7, 3) := by decide +kernel
theorem dJ0_isLatin1_aae02_13 : decode cJ0_isLatin1_aae02 13 = .ok (.iconst 1, 1) := by decide +kernel
theorem dJ0_isLatin1_aae02_14 : decode cJ0_isLatin1_aae02 14 = .ok (.goto 4, 3) := by decide +kernel
theorem dJ0_isLatin1_aae02_18 : decode cJ0_isLatin1_aae02 18 = .ok (.ireturn, 1) := by decide +kernel
set_option maxHeartbeats 4000000 in
set_option maxRecDepth 100000 in
theorem c_J0_isLatin1 {l : Launch} {G : Gc} (i9 : Nat) (hi9 : i9 < 7) : Ci l yJ0_isLatin1_aae02 cJ0_isLatin1_aae02 1 (some .boolean) 0 0 0 G [.ref (G.2.2.1 i9)] [] (fun (r9 : Int32) (u9 : va_W) => r9 = 1 ∧ u9 = []) := by
  refine Ci.of (by decide) (Nat.le_of_ble_eq_true rfl) ?_
  intro p e s m below meth c ls A B hw hl
  have C : CallFix p m c cJ0_isLatin1_aae02 1 s _ gw "java/lang/String" := B.1
  have hl : lv_has ls 1 [(0, .ref (G.2.2.1 i9))] := hl
  refine va_gets C.1 C.2.1 hw.2.2.2.2.2.2.1 hw.2.2.2.1 C.2.2.2.1 (C.2.2.2.2 _ kw47) (fun _ h9 => h9) dJ0_isLatin1_aae02_0 ?_
  refine lv_if_eq (tgt := 17) C.1 C.2.1 dJ0_isLatin1_aae02_3 (by decide) (fun h9 => absurd h9 (by decide)) (fun _ => ?_)
  refine lv_aload_n C.1 C.2.1 dJ0_isLatin1_aae02_6 rfl (lv_at hl 0 rfl) ?_
  refine vk_getf C.1 C.2.1 (hw.2.2.2.2.2.1.1 i9 hi9).2.1 hw.2.2.2.1 C.2.2.2.1 (C.2.2.2.2 _ kw1824) (fun _ h9 => h9) dJ0_isLatin1_aae02_7 ?_
  refine lv_if_ne (tgt := 17) C.1 C.2.1 dJ0_isLatin1_aae02_10 (by decide) (fun h9 => absurd (by decide) h9) (fun _ => ?_)
  refine lv_iconst (v := 1) C.1 C.2.1 dJ0_isLatin1_aae02_13 (by decide) ?_
  refine lv_goto (tgt := 18) C.1 C.2.1 dJ0_isLatin1_aae02_14 (by decide) ?_
  exact x_retz B hw rfl ⟨rfl, rfl⟩ (Nat.le_of_ble_eq_true rfl) (Nat.le_of_ble_eq_true rfl) dJ0_isLatin1_aae02_18
theorem dJ0_length_8abf5_0 : decode cJ0_length_8abf5 0 = .ok (.aload_n 0, 1) := by decide +kernel
theorem dJ0_length_8abf5_1 : decode cJ0_length_8abf5 1 = .ok (.getfield 9, 3) := by decide +kernel
theorem dJ0_length_8abf5_4 : decode cJ0_length_8abf5 4 = .ok (.arraylength, 1) := by decide +kernel
theorem dJ0_length_8abf5_5 : decode cJ0_length_8abf5 5 = .ok (.aload_n 0, 1) := by decide +kernel
theorem dJ0_length_8abf5_6 : decode cJ0_length_8abf5 6 = .ok (.invokevirtual 335, 3) := by decide +kernel
theorem mwJ0_coder_7d493 : MwV yJ0_coder_7d493 cJ0_coder_7d493 1 (some .byte) 0 := ⟨⟨kw46, kw3, by decide +kernel⟩, kw44, kw45⟩
theorem dJ0_length_8abf5_9 : decode cJ0_length_8abf5 9 = .ok (.ishr, 1) := by decide +kernel
theorem dJ0_length_8abf5_10 : decode cJ0_length_8abf5 10 = .ok (.ireturn, 1) := by decide +kernel
set_option maxHeartbeats 4000000 in
set_option maxRecDepth 100000 in
theorem c_J0_length {l : Launch} {G : Gc} (i9 : Nat) (hi9 : i9 < 7) : Ci l yJ0_length_8abf5 cJ0_length_8abf5 1 (some .int) 1 0 0 G [.ref (G.2.2.1 i9)] [] (fun (r9 : Int32) (u9 : va_W) => r9 = (nI (lenJS.getD i9 0)) ∧ u9 = []) := by
  refine Ci.of (by decide) (Nat.le_of_ble_eq_true rfl) ?_
  intro p e s m below meth c ls A B hw hl
  have C : CallFix p m c cJ0_length_8abf5 1 s _ gw "java/lang/String" := B.1
  have hl : lv_has ls 1 [(0, .ref (G.2.2.1 i9))] := hl
  refine lv_aload_n C.1 C.2.1 dJ0_length_8abf5_0 rfl (lv_at hl 0 rfl) ?_
  refine vk_getf C.1 C.2.1 (hw.2.2.2.2.2.1.1 i9 hi9).2.2.1 hw.2.2.2.1 C.2.2.2.1 (C.2.2.2.2 _ kw1823) (fun _ h9 => h9) dJ0_length_8abf5_1 ?_
  refine va_tlen (v := Int32.ofNat (lenJS.getD i9 0)) C.1 C.2.1 (hw.2.2.2.2.2.1.1 i9 hi9).2.2.2 hw.2.2.2.1 rfl dJ0_length_8abf5_4 ?_
  refine lv_aload_n C.1 C.2.1 dJ0_length_8abf5_5 rfl (lv_at hl 0 rfl) ?_
  refine x_calliVR (As := []) (rest := [.int (Int32.ofNat (lenJS.getD i9 0))]) (wr := []) C hw (c_J0_coder i9 hi9) mwJ0_coder_7d493 kw43 [] [] rfl rfl rfl rfl (by decide) (vk_recv hw.2.2.2.2.2.1 hi9 hw.2.2.2.1) rfl hl.1 rfl (Nat.le_of_ble_eq_true rfl) ⟨(Nat.le_of_ble_eq_true rfl), (Nat.le_of_ble_eq_true rfl)⟩ ⟨(Nat.le_of_ble_eq_true rfl), (Nat.le_of_ble_eq_true rfl)⟩ dJ0_length_8abf5_6 (fun r1 u9 H locs hp9 hw => ?_)
  obtain ⟨rfl, rfl⟩ := hp9
  have hw : Wd G s A [] H _ := hw
  refine lv_ishr C.1 C.2.1 dJ0_length_8abf5_9 ?_
  refine x_topi (z := (nI (lenJS.getD i9 0))) (sb_shr0 _) ?_
  exact x_reti B hw ⟨rfl, rfl⟩ (Nat.le_of_ble_eq_true rfl) (Nat.le_of_ble_eq_true rfl) dJ0_length_8abf5_10
theorem dJ1_charAt_3b067_0 : decode cJ1_charAt_3b067 0 = .ok (.iload_n 1, 1) := by decide +kernel
theorem dJ1_charAt_3b067_1 : decode cJ1_charAt_3b067 1 = .ok (.aload_n 0, 1) := by decide +kernel
theorem dJ1_charAt_3b067_2 : decode cJ1_charAt_3b067 2 = .ok (.arraylength, 1) := by decide +kernel
theorem dJ1_charAt_3b067_3 : decode cJ1_charAt_3b067 3 = .ok (.invokestatic 9, 3) := by decide +kernel
theorem mwJ0_checkIndex_df160 : MwS yJ0_checkIndex_df160 cJ0_checkIndex_df160 2 none 2 := ⟨⟨kw62, kw3, by decide +kernel⟩, kw61⟩
theorem dJ1_charAt_3b067_6 : decode cJ1_charAt_3b067 6 = .ok (.aload_n 0, 1) := by decide +kernel
theorem dJ1_charAt_3b067_7 : decode cJ1_charAt_3b067 7 = .ok (.iload_n 1, 1) := by decide +kernel
theorem dJ1_charAt_3b067_8 : decode cJ1_charAt_3b067 8 = .ok (.baload, 1) := by decide +kernel
theorem dJ1_charAt_3b067_9 : decode cJ1_charAt_3b067 9 = .ok (.sipush 255, 3) := by decide +kernel
theorem dJ1_charAt_3b067_12 : decode cJ1_charAt_3b067 12 = .ok (.iand, 1) := by decide +kernel
theorem dJ1_charAt_3b067_13 : decode cJ1_charAt_3b067 13 = .ok (.i2c, 1) := by decide +kernel
theorem dJ1_charAt_3b067_14 : decode cJ1_charAt_3b067 14 = .ok (.ireturn, 1) := by decide +kernel
set_option maxHeartbeats 4000000 in
set_option maxRecDepth 100000 in
theorem c_J1_charAt {l : Launch} {G : Gc} (i9 : Nat) (k9 : Nat) (hi9 : i9 < 7) (hk9 : k9 < lenJS.getD i9 0) (hn9 : lenJS.getD i9 0 < 2 ^ 31) : Ci l yJ1_charAt_3b067 cJ1_charAt_3b067 2 (some .char) 2 0 0 G [.ref (G.2.2.2 i9), .int (nI k9)] [] (fun (r9 : Int32) (u9 : va_W) => r9 = ((((bytJS.getD i9 []).getD (nI k9).toNatClampNeg 0 &&& 255).toUInt32 % 65536).toInt32) ∧ u9 = []) := by
  refine Ci.of (by decide) (Nat.le_of_ble_eq_true rfl) ?_
  intro p e s m below meth c ls A B hw hl
  have C : CallFix p m c cJ1_charAt_3b067 2 s _ gw "java/lang/StringLatin1" := B.1
  have hl : lv_has ls 2 [(0, .ref (G.2.2.2 i9)), (1, .int (nI k9))] := hl
  refine lv_iload_n C.1 C.2.1 dJ1_charAt_3b067_0 rfl (lv_at hl 1 rfl) ?_
  refine lv_aload_n C.1 C.2.1 dJ1_charAt_3b067_1 rfl (lv_at hl 0 rfl) ?_
  refine va_tlen (v := Int32.ofNat (lenJS.getD i9 0)) C.1 C.2.1 (hw.2.2.2.2.2.1.1 i9 hi9).2.2.2 hw.2.2.2.1 rfl dJ1_charAt_3b067_2 ?_
  refine x_topi (z := (nI (lenJS.getD i9 0))) rfl ?_
  refine x_callvS (As := [.int (nI k9), .int (nI (lenJS.getD i9 0))]) (rest := []) (wr := []) C hw (c_J0_checkIndex k9 (lenJS.getD i9 0) hk9 hn9) mwJ0_checkIndex_df160 kw60 [] [] rfl rfl rfl rfl (by decide) rfl hl.1 rfl (Nat.le_of_ble_eq_true rfl) ⟨(Nat.le_of_ble_eq_true rfl), (Nat.le_of_ble_eq_true rfl)⟩ ⟨(Nat.le_of_ble_eq_true rfl), (Nat.le_of_ble_eq_true rfl)⟩ dJ1_charAt_3b067_3 (fun  u9 H locs hp9 hw => ?_)
  obtain rfl := hp9
  have hw : Wd G s A [] H _ := hw
  refine lv_aload_n C.1 C.2.1 dJ1_charAt_3b067_6 rfl (lv_at hl 0 rfl) ?_
  refine lv_iload_n C.1 C.2.1 dJ1_charAt_3b067_7 rfl (lv_at hl 1 rfl) ?_
  refine va_tb (v := .int ((bytJS.getD i9 []).getD (nI k9).toNatClampNeg 0)) C.1 C.2.1 (hw.2.2.2.2.2.1.1 i9 hi9).2.2.2 hw.2.2.2.1 (vp_in_nI hk9 hn9) rfl dJ1_charAt_3b067_8 ?_
  refine lv_sipush (v := 255) C.1 C.2.1 dJ1_charAt_3b067_9 (by decide) ?_
  refine lv_iand C.1 C.2.1 dJ1_charAt_3b067_12 ?_
  refine lv_i2c (v := (((((bytJS.getD i9 []).getD (nI k9).toNatClampNeg 0) &&& 255).toUInt32 % 65536).toInt32)) C.1 C.2.1 dJ1_charAt_3b067_13 rfl ?_
  exact x_retz B hw (pk_nc _) ⟨rfl, rfl⟩ (Nat.le_of_ble_eq_true rfl) (Nat.le_of_ble_eq_true rfl) dJ1_charAt_3b067_14
theorem dJ0_charAt_5068e_0 : decode cJ0_charAt_5068e 0 = .ok (.aload_n 0, 1) := by decide +kernel
theorem dJ0_charAt_5068e_1 : decode cJ0_charAt_5068e 1 = .ok (.invokevirtual 492, 3) := by decide +kernel
theorem mwJ0_isLatin1_aae02 : MwV yJ0_isLatin1_aae02 cJ0_isLatin1_aae02 1 (some .boolean) 0 := ⟨⟨kw56, kw3, by decide +kernel⟩, kw54, kw55⟩
theorem dJ0_charAt_5068e_4 : decode cJ0_charAt_5068e 4 = .ok (.ifCond .eq 12, 3) := by decide +kernel
theorem dJ0_charAt_5068e_7 : decode cJ0_charAt_5068e 7 = .ok (.aload_n 0, 1) := by decide +kernel
theorem dJ0_charAt_5068e_8 : decode cJ0_charAt_5068e 8 = .ok (.getfield 9, 3) := by decide +kernel
theorem dJ0_charAt_5068e_11 : decode cJ0_charAt_5068e 11 = .ok (.iload_n 1, 1) := by decide +kernel
theorem dJ0_charAt_5068e_12 : decode cJ0_charAt_5068e 12 = .ok (.invokestatic 495, 3) := by decide +kernel
theorem mwJ1_charAt_3b067 : MwS yJ1_charAt_3b067 cJ1_charAt_3b067 2 (some .char) 2 := ⟨⟨kw59, kw4, by decide +kernel⟩, kw58⟩
theorem dJ0_charAt_5068e_15 : decode cJ0_charAt_5068e 15 = .ok (.ireturn, 1) := by decide +kernel
set_option maxHeartbeats 4000000 in
set_option maxRecDepth 100000 in
theorem c_J0_charAt {l : Launch} {G : Gc} (i9 : Nat) (k9 : Nat) (hi9 : i9 < 7) (hk9 : k9 < lenJS.getD i9 0) (hn9 : lenJS.getD i9 0 < 2 ^ 31) : Ci l yJ0_charAt_5068e cJ0_charAt_5068e 2 (some .char) 3 0 0 G [.ref (G.2.2.1 i9), .int (nI k9)] [] (fun (r9 : Int32) (u9 : va_W) => r9 = ((((bytJS.getD i9 []).getD (nI k9).toNatClampNeg 0 &&& 255).toUInt32 % 65536).toInt32) ∧ u9 = []) := by
  refine Ci.of (by decide) (Nat.le_of_ble_eq_true rfl) ?_
  intro p e s m below meth c ls A B hw hl
  have C : CallFix p m c cJ0_charAt_5068e 2 s _ gw "java/lang/String" := B.1
  have hl : lv_has ls 2 [(0, .ref (G.2.2.1 i9)), (1, .int (nI k9))] := hl
  refine lv_aload_n C.1 C.2.1 dJ0_charAt_5068e_0 rfl (lv_at hl 0 rfl) ?_
  refine x_calliVR (As := []) (rest := []) (wr := []) C hw (c_J0_isLatin1 i9 hi9) mwJ0_isLatin1_aae02 kw53 [] [] rfl rfl rfl rfl (by decide) (vk_recv hw.2.2.2.2.2.1 hi9 hw.2.2.2.1) rfl hl.1 rfl (Nat.le_of_ble_eq_true rfl) ⟨(Nat.le_of_ble_eq_true rfl), (Nat.le_of_ble_eq_true rfl)⟩ ⟨(Nat.le_of_ble_eq_true rfl), (Nat.le_of_ble_eq_true rfl)⟩ dJ0_charAt_5068e_1 (fun r1 u9 H locs hp9 hw => ?_)
  obtain ⟨rfl, rfl⟩ := hp9
  have hw : Wd G s A [] H _ := hw
  refine lv_if_eq (tgt := 16) C.1 C.2.1 dJ0_charAt_5068e_4 (by decide) (fun h9 => absurd h9 (by decide)) (fun _ => ?_)
  refine lv_aload_n C.1 C.2.1 dJ0_charAt_5068e_7 rfl (lv_at hl 0 rfl) ?_
  refine vk_getf C.1 C.2.1 (hw.2.2.2.2.2.1.1 i9 hi9).2.2.1 hw.2.2.2.1 C.2.2.2.1 (C.2.2.2.2 _ kw1823) (fun _ h9 => h9) dJ0_charAt_5068e_8 ?_
  refine lv_iload_n C.1 C.2.1 dJ0_charAt_5068e_11 rfl (lv_at hl 1 rfl) ?_
  refine x_calliS (As := [.ref (G.2.2.2 i9), .int (nI k9)]) (rest := []) (wr := []) C hw (c_J1_charAt i9 k9 hi9 hk9 hn9) mwJ1_charAt_3b067 kw57 [] [] rfl rfl rfl rfl (by decide) rfl hl.1 rfl (Nat.le_of_ble_eq_true rfl) ⟨(Nat.le_of_ble_eq_true rfl), (Nat.le_of_ble_eq_true rfl)⟩ ⟨(Nat.le_of_ble_eq_true rfl), (Nat.le_of_ble_eq_true rfl)⟩ dJ0_charAt_5068e_12 (fun r2 u9 H locs hp9 hw => ?_)
  obtain ⟨rfl, rfl⟩ := hp9
  have hw : Wd G s A [] H _ := hw
  exact x_retz B hw (pk_nc _) ⟨rfl, rfl⟩ (Nat.le_of_ble_eq_true rfl) (Nat.le_of_ble_eq_true rfl) dJ0_charAt_5068e_15
