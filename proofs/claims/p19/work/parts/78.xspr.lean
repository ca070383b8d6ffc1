set_option maxHeartbeats 4000000 in
set_option maxRecDepth 100000 in
theorem e_J6_bitCount_0f7a4 {l : Launch} {G : Gc} (a1 : Int32) (hi_a1 : 0 ≤ a1.toInt ∧ a1.toInt ≤ 255) : Ci l yJ6_bitCount_0f7a4 cJ6_bitCount_0f7a4 1 (some .int) 0 0 0 G [.int a1] [] (fun (r9 : Int32) (u9 : va_W) => ∃ (r_x : Int32), r9 = r_x ∧ u9 = [] ∧ (r_x = bcF a1) ∧ (0 ≤ r_x.toInt ∧ r_x.toInt ≤ 8)) := by
  refine Ci.ofQ (by decide) (Nat.le_of_ble_eq_true rfl) ?_
  intro p e s m below meth c ls A args Q hQ B hw hl
  have C : CallFix p m c cJ6_bitCount_0f7a4 1 s args gw "java/lang/Integer" := B.1
  have hl : lv_has ls 1 [(0, .int a1)] := hl
  refine lv_iload_n C.1 C.2.1 dJ6_bitCount_0f7a4_0 rfl (lv_at hl 0 rfl) ?_
  refine lv_iload_n C.1 C.2.1 dJ6_bitCount_0f7a4_1 rfl (lv_at hl 0 rfl) ?_
  refine lv_iconst (v := 1) C.1 C.2.1 dJ6_bitCount_0f7a4_2 (by decide) ?_
  refine lv_iushr (v := (byU a1 (1 : Int32))) C.1 C.2.1 dJ6_bitCount_0f7a4_3 rfl (x_genP (fun z : Int32 => z = byU a1 (1 : Int32)) rfl (fun v1 hv1 => ?_))
  refine lv_ldcw (v := 1431655765) C.1 C.2.1 C.2.2.2.1 (C.2.2.2.2 _ kw724) dJ6_bitCount_0f7a4_4 ?_
  refine lv_iand C.1 C.2.1 dJ6_bitCount_0f7a4_7 (x_genP (fun z : Int32 => z = v1 &&& 1431655765) rfl (fun v2 hv2 => ?_))
  refine lv_isub C.1 C.2.1 dJ6_bitCount_0f7a4_8 (x_genP (fun z : Int32 => z = a1 - v2) rfl (fun v3 hv3 => ?_))
  refine lv_istore_n (lv' := [(0, .int v3)]) C.1 C.2.1 dJ6_bitCount_0f7a4_9 rfl hl (by decide) rfl (fun ls hl => ?_)
  refine lv_iload_n C.1 C.2.1 dJ6_bitCount_0f7a4_10 rfl (lv_at hl 0 rfl) ?_
  refine lv_ldcw (v := 858993459) C.1 C.2.1 C.2.2.2.1 (C.2.2.2.2 _ kw725) dJ6_bitCount_0f7a4_11 ?_
  refine lv_iand C.1 C.2.1 dJ6_bitCount_0f7a4_14 (x_genP (fun z : Int32 => z = v3 &&& 858993459) rfl (fun v4 hv4 => ?_))
  refine lv_iload_n C.1 C.2.1 dJ6_bitCount_0f7a4_15 rfl (lv_at hl 0 rfl) ?_
  refine lv_iconst (v := 2) C.1 C.2.1 dJ6_bitCount_0f7a4_16 (by decide) ?_
  refine lv_iushr (v := (byU v3 (2 : Int32))) C.1 C.2.1 dJ6_bitCount_0f7a4_17 rfl (x_genP (fun z : Int32 => z = byU v3 (2 : Int32)) rfl (fun v5 hv5 => ?_))
  refine lv_ldcw (v := 858993459) C.1 C.2.1 C.2.2.2.1 (C.2.2.2.2 _ kw725) dJ6_bitCount_0f7a4_18 ?_
  refine lv_iand C.1 C.2.1 dJ6_bitCount_0f7a4_21 (x_genP (fun z : Int32 => z = v5 &&& 858993459) rfl (fun v6 hv6 => ?_))
  refine lv_iadd C.1 C.2.1 dJ6_bitCount_0f7a4_22 (x_genP (fun z : Int32 => z = v4 + v6) rfl (fun v7 hv7 => ?_))
  refine lv_istore_n (lv' := [(0, .int v7)]) C.1 C.2.1 dJ6_bitCount_0f7a4_23 rfl hl (by decide) rfl (fun ls hl => ?_)
  refine lv_iload_n C.1 C.2.1 dJ6_bitCount_0f7a4_24 rfl (lv_at hl 0 rfl) ?_
  refine lv_iload_n C.1 C.2.1 dJ6_bitCount_0f7a4_25 rfl (lv_at hl 0 rfl) ?_
  refine lv_iconst (v := 4) C.1 C.2.1 dJ6_bitCount_0f7a4_26 (by decide) ?_
  refine lv_iushr (v := (byU v7 (4 : Int32))) C.1 C.2.1 dJ6_bitCount_0f7a4_27 rfl (x_genP (fun z : Int32 => z = byU v7 (4 : Int32)) rfl (fun v8 hv8 => ?_))
  refine lv_iadd C.1 C.2.1 dJ6_bitCount_0f7a4_28 (x_genP (fun z : Int32 => z = v7 + v8) rfl (fun v9 hv9 => ?_))
  refine lv_ldcw (v := 252645135) C.1 C.2.1 C.2.2.2.1 (C.2.2.2.2 _ kw726) dJ6_bitCount_0f7a4_29 ?_
  refine lv_iand C.1 C.2.1 dJ6_bitCount_0f7a4_32 (x_genP (fun z : Int32 => z = v9 &&& 252645135) rfl (fun v10 hv10 => ?_))
  refine lv_istore_n (lv' := [(0, .int v10)]) C.1 C.2.1 dJ6_bitCount_0f7a4_33 rfl hl (by decide) rfl (fun ls hl => ?_)
  refine lv_iload_n C.1 C.2.1 dJ6_bitCount_0f7a4_34 rfl (lv_at hl 0 rfl) ?_
  refine lv_iload_n C.1 C.2.1 dJ6_bitCount_0f7a4_35 rfl (lv_at hl 0 rfl) ?_
  refine lv_bipush (v := 8) C.1 C.2.1 dJ6_bitCount_0f7a4_36 (by decide) ?_
  refine lv_iushr (v := (byU v10 (8 : Int32))) C.1 C.2.1 dJ6_bitCount_0f7a4_38 rfl (x_genP (fun z : Int32 => z = byU v10 (8 : Int32)) rfl (fun v11 hv11 => ?_))
  refine lv_iadd C.1 C.2.1 dJ6_bitCount_0f7a4_39 (x_genP (fun z : Int32 => z = v10 + v11) rfl (fun v12 hv12 => ?_))
  refine lv_istore_n (lv' := [(0, .int v12)]) C.1 C.2.1 dJ6_bitCount_0f7a4_40 rfl hl (by decide) rfl (fun ls hl => ?_)
  refine lv_iload_n C.1 C.2.1 dJ6_bitCount_0f7a4_41 rfl (lv_at hl 0 rfl) ?_
  refine lv_iload_n C.1 C.2.1 dJ6_bitCount_0f7a4_42 rfl (lv_at hl 0 rfl) ?_
  refine lv_bipush (v := 16) C.1 C.2.1 dJ6_bitCount_0f7a4_43 (by decide) ?_
  refine lv_iushr (v := (byU v12 (16 : Int32))) C.1 C.2.1 dJ6_bitCount_0f7a4_45 rfl (x_genP (fun z : Int32 => z = byU v12 (16 : Int32)) rfl (fun v13 hv13 => ?_))
  refine lv_iadd C.1 C.2.1 dJ6_bitCount_0f7a4_46 (x_genP (fun z : Int32 => z = v12 + v13) rfl (fun v14 hv14 => ?_))
  refine lv_istore_n (lv' := [(0, .int v14)]) C.1 C.2.1 dJ6_bitCount_0f7a4_47 rfl hl (by decide) rfl (fun ls hl => ?_)
  refine lv_iload_n C.1 C.2.1 dJ6_bitCount_0f7a4_48 rfl (lv_at hl 0 rfl) ?_
  refine lv_bipush (v := 63) C.1 C.2.1 dJ6_bitCount_0f7a4_49 (by decide) ?_
  refine lv_iand C.1 C.2.1 dJ6_bitCount_0f7a4_51 (x_genP (fun z : Int32 => z = v14 &&& 63) rfl (fun v15 hv15 => ?_))
  exact x_retiQ hQ B hw ⟨v15, rfl, rfl, (by subst hv15 hv14 hv13 hv12 hv11 hv10 hv9 hv8 hv7 hv6 hv5 hv4 hv3 hv2 hv1; rfl), (by have h9 := bc_bd (x := a1) (by omega) (by omega); have h8 : v15 = bcF a1 := (by subst hv15 hv14 hv13 hv12 hv11 hv10 hv9 hv8 hv7 hv6 hv5 hv4 hv3 hv2 hv1; rfl); rw [h8]; exact h9)⟩ (Nat.le_of_ble_eq_true rfl) (Nat.le_of_ble_eq_true rfl) dJ6_bitCount_0f7a4_52
set_option maxHeartbeats 4000000 in
set_option maxRecDepth 100000 in
theorem e_X5_spreadFrom {l : Launch} {G : Gc} (qs : Nat) (a1 : Int32) (qs_slides : Int32) (qs_hearers : Int32) (qs_nears : Int32) (qs_lines : Int32) (qs_pass : Int32) (qs_spread : Int32) (qs_lamp : Int32) (qs_behind : Int32) (qs_settingsTold : Int32) (qs_slideNames : Nat) (qs_pictures : Nat) (qs_heats : Nat) (qs_after : Nat) (qs_hearerNames : Nat) (qs_needs : Nat) (qs_likes : Nat) (qs_hates : Nat) (qs_near : Nat) (qs_near_c : Nat → Int32) (hi_a1 : 0 ≤ a1.toInt ∧ a1.toInt ≤ 255) (hi_qs_hearers : 0 ≤ qs_hearers.toInt ∧ qs_hearers.toInt ≤ 8) : Ci l yX5_spreadFrom cX5_spreadFrom 6 (some .int) 1 0 0 G [.ref qs, .int a1] [(qs, .inr (4, [.int qs_slides, .int qs_hearers, .int qs_nears, .int qs_lines, .int qs_pass, .int qs_spread, .int qs_lamp, .int qs_behind, .int qs_settingsTold, .ref qs_slideNames, .ref qs_pictures, .ref qs_heats, .ref qs_after, .ref qs_hearerNames, .ref qs_needs, .ref qs_likes, .ref qs_hates, .ref qs_near])), (qs_near, eI G 8 qs_near_c)] (fun (r9 : Int32) (u9 : va_W) => ∃ (r_x : Int32), r9 = r_x ∧ u9 = [(qs, .inr (4, [.int qs_slides, .int qs_hearers, .int qs_nears, .int qs_lines, .int qs_pass, .int qs_spread, .int qs_lamp, .int qs_behind, .int qs_settingsTold, .ref qs_slideNames, .ref qs_pictures, .ref qs_heats, .ref qs_after, .ref qs_hearerNames, .ref qs_needs, .ref qs_likes, .ref qs_hates, .ref qs_near])), (qs_near, eI G 8 qs_near_c)] ∧ (0 ≤ r_x.toInt ∧ r_x.toInt ≤ 255) ∧ (r_x.toInt = spG qs_near_c qs_spread.toInt qs_hearers.toInt a1)) := by
  refine Ci.ofQ (by decide) (Nat.le_of_ble_eq_true rfl) ?_
  intro p e s m below meth c ls A args Q hQ B hw hl
  have C : CallFix p m c cX5_spreadFrom 6 s args gw "LanternState$Scene" := B.1
  have hl : lv_has ls 6 [(0, .ref qs), (1, .int a1)] := hl
  refine lv_iload_n C.1 C.2.1 dX5_spreadFrom_0 rfl (lv_at hl 1 rfl) ?_
  refine lv_istore_n (lv' := [(2, .int a1), (0, .ref qs), (1, .int a1)]) C.1 C.2.1 dX5_spreadFrom_1 rfl hl (by decide) rfl (fun ls hl => ?_)
  refine lv_iconst (v := 0) C.1 C.2.1 dX5_spreadFrom_2 (by decide) ?_
  refine lv_istore_n (lv' := [(3, .int 0), (2, .int a1), (0, .ref qs), (1, .int a1)]) C.1 C.2.1 dX5_spreadFrom_3 rfl hl (by decide) rfl (fun ls hl => ?_)
  have loopJ1215 : ∀ (n9 : Nat) (j1213 : Int32) (j1214 : Int32), (2147483647 - j1213.toInt).toNat < n9 → (spN qs_near_c qs_spread.toInt qs_hearers.toInt.toNat (8 - j1213.toInt).toNat j1214 = spN qs_near_c qs_spread.toInt qs_hearers.toInt.toNat 8 a1) → (0 ≤ j1214.toInt ∧ j1214.toInt ≤ 255) → (qs_spread.toInt ≤ 0 → j1214 = a1) → (0 ≤ j1213.toInt ∧ j1213.toInt ≤ 8) → ∀ (H : Heap) (locs : List Loc) (ls : Array Slot), Wd G s A [(qs, .inr (4, [.int qs_slides, .int qs_hearers, .int qs_nears, .int qs_lines, .int qs_pass, .int qs_spread, .int qs_lamp, .int qs_behind, .int qs_settingsTold, .ref qs_slideNames, .ref qs_pictures, .ref qs_heats, .ref qs_after, .ref qs_hearerNames, .ref qs_needs, .ref qs_likes, .ref qs_hates, .ref qs_near])), (qs_near, eI G 8 qs_near_c)] H locs → lv_has ls 6 [(3, .int j1213), (2, .int j1214), (0, .ref qs)] → W p l e (rmD 1 0 0) s m args below meth c H locs 0 0 Q (F0 m 4 ls []) := by
    intro n9
    induction n9 with
    | zero => intro j1213 j1214 h9; exact absurd h9 (Nat.not_lt_zero _)
    | succ n9 ihJ1215 =>
      intro j1213 j1214 h9J1215 hJ1215_0 hJ1215_1 hJ1215_2 hJ1215_3 H locs ls hw hl
      have hbj1213 := i_bd j1213
      have hO : spN qs_near_c qs_spread.toInt qs_hearers.toInt.toNat (8 - j1213.toInt).toNat j1214 = spN qs_near_c qs_spread.toInt qs_hearers.toInt.toNat 8 a1 := by assumption
      have hW : qs_spread.toInt ≤ 0 → j1214 = a1 := by assumption
      refine lv_aload_n C.1 C.2.1 dX5_spreadFrom_4 rfl (lv_at hl 2 rfl) ?_
      refine x_get C hw iwX5 4 rfl 0 rfl 5 (by decide) kw162 rfl dX5_spreadFrom_5 ?_
      refine lv_if_le (tgt := 84) C.1 C.2.1 dX5_spreadFrom_8 (by decide) (fun c1368 => ?_) (fun c1368 => ?_)
      · skip
        have c1368 : qs_spread.toInt ≤ 0 := i_leT (X := qs_spread.toInt) (Y := 0) rfl rfl c1368
        have bc1368_qs_spread := i_bd qs_spread
        refine lv_iload_n C.1 C.2.1 dX5_spreadFrom_84 rfl (lv_at hl 1 rfl) ?_
        exact x_retiQ hQ B hw ⟨j1214, rfl, rfl, (by omega), (by unfold spG; rw [if_pos (by omega), hW (by omega)])⟩ (Nat.le_of_ble_eq_true rfl) (Nat.le_of_ble_eq_true rfl) dX5_spreadFrom_85
      · skip
        have c1368 : 0 < qs_spread.toInt := i_leF (X := qs_spread.toInt) (Y := 0) rfl rfl c1368
        have bc1368_qs_spread := i_bd qs_spread
        refine lv_iload_n C.1 C.2.1 dX5_spreadFrom_11 rfl (lv_at hl 0 rfl) ?_
        refine lv_bipush (v := 8) C.1 C.2.1 dX5_spreadFrom_12 (by decide) ?_
        refine lv_icmp_ge (tgt := 84) C.1 C.2.1 dX5_spreadFrom_14 (by decide) (fun c1369 => ?_) (fun c1369 => ?_)
        · skip
          have c1369 : 8 ≤ j1213.toInt := i_leT (X := 8) (Y := j1213.toInt) rfl rfl c1369
          refine lv_iload_n C.1 C.2.1 dX5_spreadFrom_84 rfl (lv_at hl 1 rfl) ?_
          exact x_retiQ hQ B hw ⟨j1214, rfl, rfl, (by omega), (by unfold spG; rw [if_neg (by omega), ← hO, show (8 - j1213.toInt).toNat = 0 by omega]; all_goals rfl)⟩ (Nat.le_of_ble_eq_true rfl) (Nat.le_of_ble_eq_true rfl) dX5_spreadFrom_85
        · skip
          have c1369 : j1213.toInt < 8 := i_leF (X := 8) (Y := j1213.toInt) rfl rfl c1369
          refine lv_iload_n C.1 C.2.1 dX5_spreadFrom_17 rfl (lv_at hl 1 rfl) ?_
          refine lv_istore (lv' := [(4, .int j1214), (3, .int j1213), (2, .int j1214), (0, .ref qs)]) C.1 C.2.1 dX5_spreadFrom_18 hl (by decide) rfl (fun ls hl => ?_)
          refine lv_iconst (v := 0) C.1 C.2.1 dX5_spreadFrom_20 (by decide) ?_
          refine lv_istore (lv' := [(5, .int 0), (4, .int j1214), (3, .int j1213), (2, .int j1214), (0, .ref qs)]) C.1 C.2.1 dX5_spreadFrom_21 hl (by decide) rfl (fun ls hl => ?_)
          have loopJ1487 : ∀ (n9 : Nat) (j1485 : Int32) (j1486 : Int32), (2147483647 - j1485.toInt).toNat < n9 → (j1486 = spA qs_near_c qs_spread.toInt j1214 (j1485.toInt).toNat) → (j1485.toInt ≤ qs_hearers.toInt) → (0 ≤ j1485.toInt ∧ j1485.toInt ≤ 8) → ∀ (H : Heap) (locs : List Loc) (ls : Array Slot), Wd G s A [(qs, .inr (4, [.int qs_slides, .int qs_hearers, .int qs_nears, .int qs_lines, .int qs_pass, .int qs_spread, .int qs_lamp, .int qs_behind, .int qs_settingsTold, .ref qs_slideNames, .ref qs_pictures, .ref qs_heats, .ref qs_after, .ref qs_hearerNames, .ref qs_needs, .ref qs_likes, .ref qs_hates, .ref qs_near])), (qs_near, eI G 8 qs_near_c)] H locs → lv_has ls 6 [(5, .int j1485), (4, .int j1486), (3, .int j1213), (2, .int j1214), (0, .ref qs)] → W p l e (rmD 1 0 0) s m args below meth c H locs 0 0 Q (F0 m 23 ls []) := by
            intro n9
            induction n9 with
            | zero => intro j1485 j1486 h9; exact absurd h9 (Nat.not_lt_zero _)
            | succ n9 ihJ1487 =>
              intro j1485 j1486 h9J1487 hJ1487_0 hJ1487_1 hJ1487_2 H locs ls hw hl
              have hbj1485 := i_bd j1485
              have hM : j1486 = spA qs_near_c qs_spread.toInt j1214 (j1485.toInt).toNat := by assumption
              refine lv_iload C.1 C.2.1 dX5_spreadFrom_23 (lv_at hl 0 rfl) ?_
              refine lv_aload_n C.1 C.2.1 dX5_spreadFrom_25 rfl (lv_at hl 4 rfl) ?_
              refine x_get C hw iwX5 4 rfl 0 rfl 1 (by decide) kw152 rfl dX5_spreadFrom_26 ?_
              refine lv_icmp_ge (tgt := 66) C.1 C.2.1 dX5_spreadFrom_29 (by decide) (fun c1503 => ?_) (fun c1503 => ?_)
              · skip
                have c1503 : qs_hearers.toInt ≤ j1485.toInt := i_leT (X := qs_hearers.toInt) (Y := j1485.toInt) rfl rfl c1503
                have hst : j1486 = spA qs_near_c qs_spread.toInt j1214 qs_hearers.toInt.toNat := by rw [show qs_hearers.toInt.toNat = (j1485.toInt).toNat by omega]; exact hM
                refine lv_iload C.1 C.2.1 dX5_spreadFrom_66 (lv_at hl 1 rfl) ?_
                refine lv_iload_n C.1 C.2.1 dX5_spreadFrom_68 rfl (lv_at hl 3 rfl) ?_
                refine lv_icmp_ne (tgt := 75) C.1 C.2.1 dX5_spreadFrom_69 (by decide) (fun c1504 => ?_) (fun c1504 => ?_)
                · skip
                  have c1504 : j1486.toInt ≠ j1214.toInt := i_eqF (X := j1486.toInt) (Y := j1214.toInt) rfl rfl c1504
                  have bc1504_j1486 := i_bd j1486
                  refine lv_iload C.1 C.2.1 dX5_spreadFrom_75 (lv_at hl 1 rfl) ?_
                  refine lv_istore_n (lv' := [(2, .int j1486), (5, .int j1485), (4, .int j1486), (3, .int j1213), (0, .ref qs)]) C.1 C.2.1 dX5_spreadFrom_77 rfl hl (by decide) rfl (fun ls hl => ?_)
                  obtain ⟨v1505, ev1505⟩ : ∃ z : Int32, j1213 + 1 = z := ⟨_, rfl⟩
                  have hv1505 : v1505.toInt = j1213.toInt + 1 := by rw [← ev1505]; exact i_add rfl rfl (by omega) (by omega)
                  refine lv_iinc (v := v1505) (lv' := [(3, .int v1505), (2, .int j1486), (5, .int j1485), (4, .int j1486), (0, .ref qs)]) C.1 C.2.1 dX5_spreadFrom_78 hl (k := 3) rfl ev1505 (by decide) rfl (fun ls hl => ?_)
                  refine lv_goto (tgt := 4) C.1 C.2.1 dX5_spreadFrom_81 (by decide) ?_
                  exact ihJ1215 v1505 j1486 (by omega) (spN_d hO (by omega) hst (by omega)) (by rw [hst]; exact (spA_bd (by omega) (by omega) _ (by omega)).1) (fun h9 => absurd h9 (by omega)) (by omega) _ _ _ hw (lv_sub hl [0, 1, 4] rfl)
                · skip
                  have c1504 : j1486.toInt = j1214.toInt := i_eqT (X := j1486.toInt) (Y := j1214.toInt) rfl rfl c1504
                  have bc1504_j1486 := i_bd j1486
                  refine lv_goto (tgt := 84) C.1 C.2.1 dX5_spreadFrom_72 (by decide) ?_
                  refine lv_iload_n C.1 C.2.1 dX5_spreadFrom_84 rfl (lv_at hl 3 rfl) ?_
                  exact x_retiQ hQ B hw ⟨j1214, rfl, rfl, (by omega), (by unfold spG; rw [if_neg (by omega), ← hO, spN_fix (show spA qs_near_c qs_spread.toInt j1214 qs_hearers.toInt.toNat = j1214 by rw [← hst]; exact Int32.toInt_inj.mp (by omega))])⟩ (Nat.le_of_ble_eq_true rfl) (Nat.le_of_ble_eq_true rfl) dX5_spreadFrom_85
              · skip
                have c1503 : j1485.toInt < qs_hearers.toInt := i_leF (X := qs_hearers.toInt) (Y := j1485.toInt) rfl rfl c1503
                refine lv_aload_n C.1 C.2.1 dX5_spreadFrom_32 rfl (lv_at hl 4 rfl) ?_
                refine x_get C hw iwX5 4 rfl 0 rfl 17 (by decide) kw191 rfl dX5_spreadFrom_33 ?_
                refine lv_iload C.1 C.2.1 dX5_spreadFrom_36 (lv_at hl 0 rfl) ?_
                refine x_iald (v := (qs_near_c j1485.toNatClampNeg)) C hw 1 rfl (i_in (by omega) (by omega)) rfl dX5_spreadFrom_38 (x_genP (fun z : Int32 => z = qs_near_c (j1485.toInt.toNat) ∧ z.toInt = (qs_near_c (j1485.toInt.toNat)).toInt) ⟨rfl, rfl⟩ (fun v1506 hv1506 => ?_))
                refine lv_iload_n C.1 C.2.1 dX5_spreadFrom_39 rfl (lv_at hl 3 rfl) ?_
                refine lv_iand C.1 C.2.1 dX5_spreadFrom_40 (x_genP (fun z : Int32 => z = v1506 &&& j1214) rfl (fun v1507 hv1507 => ?_))
                have hz9 := and255 (x := v1506) (w := j1214) (by omega) (by omega) hv1507
                refine x_calliS (As := [.int v1507]) (rest := []) (wr := [(qs, .inr (4, [.int qs_slides, .int qs_hearers, .int qs_nears, .int qs_lines, .int qs_pass, .int qs_spread, .int qs_lamp, .int qs_behind, .int qs_settingsTold, .ref qs_slideNames, .ref qs_pictures, .ref qs_heats, .ref qs_after, .ref qs_hearerNames, .ref qs_needs, .ref qs_likes, .ref qs_hates, .ref qs_near])), (qs_near, eI G 8 qs_near_c)]) C hw (e_J6_bitCount_0f7a4 v1507 (by omega)) mwJ6_bitCount_0f7a4 kw721 [] [0, 1] rfl rfl rfl rfl (by decide) rfl hl.1 rfl (Nat.le_of_ble_eq_true rfl) ⟨(Nat.le_of_ble_eq_true rfl), (Nat.le_of_ble_eq_true rfl)⟩ ⟨(Nat.le_of_ble_eq_true rfl), (Nat.le_of_ble_eq_true rfl)⟩ dX5_spreadFrom_41 (fun r1508 u9 H locs hp9 hw => ?_)
                obtain ⟨x1509, rfl, rfl, hf1510, hf1511⟩ := hp9
                have hw : Wd G s A [(qs, .inr (4, [.int qs_slides, .int qs_hearers, .int qs_nears, .int qs_lines, .int qs_pass, .int qs_spread, .int qs_lamp, .int qs_behind, .int qs_settingsTold, .ref qs_slideNames, .ref qs_pictures, .ref qs_heats, .ref qs_after, .ref qs_hearerNames, .ref qs_needs, .ref qs_likes, .ref qs_hates, .ref qs_near])), (qs_near, eI G 8 qs_near_c)] H _ := hw
                refine lv_aload_n C.1 C.2.1 dX5_spreadFrom_44 rfl (lv_at hl 4 rfl) ?_
                refine x_get C hw iwX5 4 rfl 0 rfl 5 (by decide) kw162 rfl dX5_spreadFrom_45 ?_
                refine lv_icmp_lt (tgt := 60) C.1 C.2.1 dX5_spreadFrom_48 (by decide) (fun c1512 => ?_) (fun c1512 => ?_)
                · skip
                  have c1512 : r1508.toInt < qs_spread.toInt := i_ltT (X := r1508.toInt) (Y := qs_spread.toInt) rfl rfl c1512
                  have bc1512_r1508 := i_bd r1508
                  have bc1512_qs_spread := i_bd qs_spread
                  obtain ⟨v1513, ev1513⟩ : ∃ z : Int32, j1485 + 1 = z := ⟨_, rfl⟩
                  have hv1513 : v1513.toInt = j1485.toInt + 1 := by rw [← ev1513]; exact i_add rfl rfl (by omega) (by omega)
                  refine lv_iinc (v := v1513) (lv' := [(5, .int v1513), (4, .int j1486), (3, .int j1213), (2, .int j1214), (0, .ref qs)]) C.1 C.2.1 dX5_spreadFrom_60 hl (k := 0) rfl ev1513 (by decide) rfl (fun ls hl => ?_)
                  refine lv_goto (tgt := 23) C.1 C.2.1 dX5_spreadFrom_63 (by decide) ?_
                  exact ihJ1487 v1513 j1486 (by omega) (spA_n hM (by omega) hv1506.1 hv1507 hf1510 (by omega) (by omega)) (by first | assumption | omega) (by omega) _ _ _ hw (lv_sub hl [0, 1, 2, 3, 4] rfl)
                · skip
                  have c1512 : qs_spread.toInt ≤ r1508.toInt := i_ltF (X := r1508.toInt) (Y := qs_spread.toInt) rfl rfl c1512
                  have bc1512_r1508 := i_bd r1508
                  have bc1512_qs_spread := i_bd qs_spread
                  refine lv_iload C.1 C.2.1 dX5_spreadFrom_51 (lv_at hl 1 rfl) ?_
                  refine lv_iconst (v := 1) C.1 C.2.1 dX5_spreadFrom_53 (by decide) ?_
                  refine lv_iload C.1 C.2.1 dX5_spreadFrom_54 (lv_at hl 0 rfl) ?_
                  refine lv_ishl C.1 C.2.1 dX5_spreadFrom_56 (x_genP (fun z : Int32 => (1 ≤ z.toInt ∧ z.toInt ≤ 256) ∧ z = (1 : Int32) <<< (j1485 &&& 31)) ⟨i_shl1 (by omega) (by omega), rfl⟩ (fun v1514 hv1514 => ?_))
                  refine lv_ior C.1 C.2.1 dX5_spreadFrom_57 (x_genP (fun z : Int32 => z = j1486 ||| v1514) rfl (fun v1515 hv1515 => ?_))
                  refine lv_istore (lv' := [(4, .int v1515), (5, .int j1485), (3, .int j1213), (2, .int j1214), (0, .ref qs)]) C.1 C.2.1 dX5_spreadFrom_58 hl (by decide) rfl (fun ls hl => ?_)
                  obtain ⟨v1516, ev1516⟩ : ∃ z : Int32, j1485 + 1 = z := ⟨_, rfl⟩
                  have hv1516 : v1516.toInt = j1485.toInt + 1 := by rw [← ev1516]; exact i_add rfl rfl (by omega) (by omega)
                  refine lv_iinc (v := v1516) (lv' := [(5, .int v1516), (4, .int v1515), (3, .int j1213), (2, .int j1214), (0, .ref qs)]) C.1 C.2.1 dX5_spreadFrom_60 hl (k := 1) rfl ev1516 (by decide) rfl (fun ls hl => ?_)
                  refine lv_goto (tgt := 23) C.1 C.2.1 dX5_spreadFrom_63 (by decide) ?_
                  exact ihJ1487 v1516 v1515 (by omega) (spA_y hM (by omega) hv1506.1 hv1507 hf1510 (by omega) hv1514.2 hv1515 (by omega)) (by first | assumption | omega) (by omega) _ _ _ hw (lv_sub hl [0, 1, 2, 3, 4] rfl)
          exact loopJ1487 _ 0 j1214 (Nat.lt_succ_self _) (by have e0 : (0 : Int32).toInt = 0 := rfl; show _ = spA _ _ _ 0; rfl) (by have e0 : (0 : Int32).toInt = 0 := rfl; first | assumption | omega) (by decide) _ _ _ hw (lv_sub hl [0, 1, 2, 3, 4] rfl)
  exact loopJ1215 _ 0 a1 (Nat.lt_succ_self _) (by show spN _ _ _ 8 _ = _; rfl) (by omega) (fun _ => rfl) (by decide) _ _ _ hw (lv_sub hl [0, 1, 2] rfl)
set_option maxHeartbeats 4000000 in
set_option maxRecDepth 100000 in
theorem f_X10_spreads {l : Launch} {G : Gc} (qx : Nat) (a1 : Int32) (qt : Nat) (qs : Nat) (qd : Nat) (qa : Nat) (qb : Nat) (qh : Nat) (qr : Nat) (qe : Nat) (qp : Nat) (qf : Nat) (qn : Nat) (qi : Nat) (qw : Nat) (qx_toldAny : Int32) (qx_lastFault : Int32) (qx_lastMoved : Int32) (qx_lastScratched : Int32) (qs_slides : Int32) (qs_hearers : Int32) (qs_nears : Int32) (qs_lines : Int32) (qs_pass : Int32) (qs_spread : Int32) (qs_lamp : Int32) (qs_behind : Int32) (qs_settingsTold : Int32) (qs_slideNames : Nat) (qs_pictures : Nat) (qs_heats : Nat) (qs_after : Nat) (qs_hearerNames : Nat) (qs_needs : Nat) (qs_likes : Nat) (qs_hates : Nat) (qs_near : Nat) (qs_near_c : Nat → Int32) (hi_qs_hearers : 0 ≤ qs_hearers.toInt ∧ qs_hearers.toInt ≤ 8) : Ci l yX10_spreads cX10_spreads 2 (some .int) 2 0 0 G [.ref qx, .int a1] [(qx, .inr (9, [.ref qt, .ref qs, .ref qd, .ref qa, .ref qb, .ref qh, .ref qr, .ref qe, .ref qp, .ref qf, .ref qn, .ref qi, .ref qw, .int qx_toldAny, .int qx_lastFault, .int qx_lastMoved, .int qx_lastScratched])), (qs, .inr (4, [.int qs_slides, .int qs_hearers, .int qs_nears, .int qs_lines, .int qs_pass, .int qs_spread, .int qs_lamp, .int qs_behind, .int qs_settingsTold, .ref qs_slideNames, .ref qs_pictures, .ref qs_heats, .ref qs_after, .ref qs_hearerNames, .ref qs_needs, .ref qs_likes, .ref qs_hates, .ref qs_near])), (qs_near, eI G 8 qs_near_c)] (fun (r9 : Int32) (u9 : va_W) => ∃ (r_x : Int32), r9 = r_x ∧ u9 = [(qx, .inr (9, [.ref qt, .ref qs, .ref qd, .ref qa, .ref qb, .ref qh, .ref qr, .ref qe, .ref qp, .ref qf, .ref qn, .ref qi, .ref qw, .int qx_toldAny, .int qx_lastFault, .int qx_lastMoved, .int qx_lastScratched])), (qs, .inr (4, [.int qs_slides, .int qs_hearers, .int qs_nears, .int qs_lines, .int qs_pass, .int qs_spread, .int qs_lamp, .int qs_behind, .int qs_settingsTold, .ref qs_slideNames, .ref qs_pictures, .ref qs_heats, .ref qs_after, .ref qs_hearerNames, .ref qs_needs, .ref qs_likes, .ref qs_hates, .ref qs_near])), (qs_near, eI G 8 qs_near_c)] ∧ ((-1) ≤ r_x.toInt ∧ r_x.toInt ≤ 255) ∧ (r_x.toInt = spR qs_near_c qs_spread.toInt qs_hearers.toInt a1)) := by
  refine Ci.ofQ (by decide) (Nat.le_of_ble_eq_true rfl) ?_
  intro p e s m below meth c ls A args Q hQ B hw hl
  have C : CallFix p m c cX10_spreads 2 s args gw "LanternState" := B.1
  have hl : lv_has ls 2 [(0, .ref qx), (1, .int a1)] := hl
  refine lv_iload_n C.1 C.2.1 dX10_spreads_0 rfl (lv_at hl 1 rfl) ?_
  refine lv_if_lt (tgt := 16) C.1 C.2.1 dX10_spreads_1 (by decide) (fun c1 => ?_) (fun c1 => ?_)
  · skip
    have c1 : a1.toInt < 0 := i_ltT (X := a1.toInt) (Y := 0) rfl rfl c1
    have bc1_a1 := i_bd a1
    refine lv_iconst (v := (-1)) C.1 C.2.1 dX10_spreads_16 (by decide) ?_
    exact x_retiQ hQ B hw ⟨(-1), rfl, rfl, (by decide), (by have e0 : ((-1) : Int32).toInt = (-1) := rfl; unfold spR; rw [if_pos (fun h9 => absurd h9.1 (by omega))]; all_goals omega)⟩ (Nat.le_of_ble_eq_true rfl) (Nat.le_of_ble_eq_true rfl) dX10_spreads_17
  · skip
    have c1 : 0 ≤ a1.toInt := i_ltF (X := a1.toInt) (Y := 0) rfl rfl c1
    have bc1_a1 := i_bd a1
    refine lv_iload_n C.1 C.2.1 dX10_spreads_4 rfl (lv_at hl 1 rfl) ?_
    refine lv_aload_n C.1 C.2.1 dX10_spreads_5 rfl (lv_at hl 0 rfl) ?_
    refine x_get C hw iwX10 9 rfl 0 rfl 1 (by decide) kw447 rfl dX10_spreads_6 ?_
    refine x_get C hw iwX5 4 rfl 1 rfl 1 (by decide) kw155 rfl dX10_spreads_9 ?_
    refine lv_ishr C.1 C.2.1 dX10_spreads_12 (x_genP (fun z : Int32 => z = a1 >>> (qs_hearers &&& 31)) rfl (fun v2 hv2 => ?_))
    have hsr := shr_iff (a := a1) (he := qs_hearers) (by omega) (by omega) (by omega) hv2
    have hpw := pw_le (he := qs_hearers.toInt) (by omega) (by omega)
    refine lv_if_eq (tgt := 18) C.1 C.2.1 dX10_spreads_13 (by decide) (fun c3 => ?_) (fun c3 => ?_)
    · skip
      have c3 : v2.toInt = 0 := i_eqT (X := v2.toInt) (Y := 0) rfl rfl c3
      have bc3_v2 := i_bd v2
      have hlt := hsr.mp (by omega)
      refine lv_aload_n C.1 C.2.1 dX10_spreads_18 rfl (lv_at hl 0 rfl) ?_
      refine x_get C hw iwX10 9 rfl 0 rfl 1 (by decide) kw447 rfl dX10_spreads_19 ?_
      refine lv_iload_n C.1 C.2.1 dX10_spreads_22 rfl (lv_at hl 1 rfl) ?_
      refine x_calliV (As := [.int a1]) (rest := []) (wr := [(qx, .inr (9, [.ref qt, .ref qs, .ref qd, .ref qa, .ref qb, .ref qh, .ref qr, .ref qe, .ref qp, .ref qf, .ref qn, .ref qi, .ref qw, .int qx_toldAny, .int qx_lastFault, .int qx_lastMoved, .int qx_lastScratched]))]) C hw (e_X5_spreadFrom qs a1 qs_slides qs_hearers qs_nears qs_lines qs_pass qs_spread qs_lamp qs_behind qs_settingsTold qs_slideNames qs_pictures qs_heats qs_after qs_hearerNames qs_needs qs_likes qs_hates qs_near qs_near_c (by omega) (by omega)) mwX5_spreadFrom kw813 [1, 2] [0] rfl rfl rfl rfl (by decide) 0 rfl rfl rfl rfl hl.1 rfl (Nat.le_of_ble_eq_true rfl) ⟨(Nat.le_of_ble_eq_true rfl), (Nat.le_of_ble_eq_true rfl)⟩ ⟨(Nat.le_of_ble_eq_true rfl), (Nat.le_of_ble_eq_true rfl)⟩ dX10_spreads_23 (fun r4 u9 H locs hp9 hw => ?_)
      obtain ⟨x5, rfl, rfl, hf6, hf7⟩ := hp9
      have hw : Wd G s A [(qx, .inr (9, [.ref qt, .ref qs, .ref qd, .ref qa, .ref qb, .ref qh, .ref qr, .ref qe, .ref qp, .ref qf, .ref qn, .ref qi, .ref qw, .int qx_toldAny, .int qx_lastFault, .int qx_lastMoved, .int qx_lastScratched])), (qs, .inr (4, [.int qs_slides, .int qs_hearers, .int qs_nears, .int qs_lines, .int qs_pass, .int qs_spread, .int qs_lamp, .int qs_behind, .int qs_settingsTold, .ref qs_slideNames, .ref qs_pictures, .ref qs_heats, .ref qs_after, .ref qs_hearerNames, .ref qs_needs, .ref qs_likes, .ref qs_hates, .ref qs_near])), (qs_near, eI G 8 qs_near_c)] H _ := hw
      exact x_retiQ hQ B hw ⟨r4, rfl, rfl, (by omega), (by unfold spR; rw [if_neg (fun h9 => h9 ⟨by omega, hlt⟩)]; exact hf7)⟩ (Nat.le_of_ble_eq_true rfl) (Nat.le_of_ble_eq_true rfl) dX10_spreads_26
    · skip
      have c3 : v2.toInt ≠ 0 := i_eqF (X := v2.toInt) (Y := 0) rfl rfl c3
      have bc3_v2 := i_bd v2
      have hlt : ¬ a1.toInt < 2 ^ qs_hearers.toInt.toNat := fun h9 => absurd (hsr.mpr h9) (by omega)
      refine lv_iconst (v := (-1)) C.1 C.2.1 dX10_spreads_16 (by decide) ?_
      exact x_retiQ hQ B hw ⟨(-1), rfl, rfl, (by decide), (by have e0 : ((-1) : Int32).toInt = (-1) := rfl; unfold spR; rw [if_pos (fun h9 => hlt h9.2)]; all_goals omega)⟩ (Nat.le_of_ble_eq_true rfl) (Nat.le_of_ble_eq_true rfl) dX10_spreads_17
