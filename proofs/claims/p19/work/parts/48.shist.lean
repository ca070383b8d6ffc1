-- needs: 4 5 12 14 16
def atS (f : Nat → Option Nat) (k q : Nat) : Prop := f k = some q
theorem len31 : ∀ i, i < 7 → lenJS.getD i 0 < 2 ^ 31 := by decide +kernel
theorem dX2_clear_0 : decode cX2_clear 0 = .ok (.aload_n 0, 1) := by decide +kernel
theorem dX2_clear_1 : decode cX2_clear 1 = .ok (.iconst 0, 1) := by decide +kernel
theorem dX2_clear_2 : decode cX2_clear 2 = .ok (.putfield 18, 3) := by decide +kernel
theorem dX2_clear_5 : decode cX2_clear 5 = .ok (.return_, 1) := by decide +kernel
set_option maxHeartbeats 4000000 in
set_option maxRecDepth 100000 in
theorem s_X2_clear {l : Launch} {G : Gc} (qh : Nat) (qh_kept : Nat) (qh_first : Int32) (qh_size : Int32)  : Cv l yX2_clear cX2_clear 1 0 0 0 G [.ref qh] [(qh, .inr (2, [.ref qh_kept, .int qh_first, .int qh_size]))] (fun (u9 : va_W) => u9 = [(qh, .inr (2, [.ref qh_kept, .int qh_first, .int 0]))]) := by
  refine Cv.ofQ (by decide) (Nat.le_of_ble_eq_true rfl) ?_
  intro p e s m below meth c ls A args Q hQ B hw hl
  have C : CallFix p m c cX2_clear 1 s args gw "LanternState$History" := B.1
  have hl : lv_has ls 1 [(0, .ref qh)] := hl
  refine lv_aload_n C.1 C.2.1 dX2_clear_0 rfl (lv_at hl 0 rfl) ?_
  refine lv_iconst (v := 0) C.1 C.2.1 dX2_clear_1 (by decide) ?_
  refine x_put (w' := [(qh, .inr (2, [.ref qh_kept, .int qh_first, .int 0]))]) C hw iwX2 tyX2_ok nmX2 2 rfl 0 rfl 2 (by decide) kw305 rfl rfl rfl (Nat.le_of_ble_eq_true rfl) rfl dX2_clear_2 (fun H locs hw => ?_)
  exact x_retvQ hQ B hw rfl (Nat.le_of_ble_eq_true rfl) (Nat.le_of_ble_eq_true rfl) dX2_clear_5
theorem dX2_keep_0 : decode cX2_keep 0 = .ok (.aload_n 0, 1) := by decide +kernel
theorem dX2_keep_1 : decode cX2_keep 1 = .ok (.getfield 11, 3) := by decide +kernel
theorem dX2_keep_4 : decode cX2_keep 4 = .ok (.aload_n 0, 1) := by decide +kernel
theorem dX2_keep_5 : decode cX2_keep 5 = .ok (.getfield 22, 3) := by decide +kernel
theorem dX2_keep_8 : decode cX2_keep 8 = .ok (.aload_n 0, 1) := by decide +kernel
theorem dX2_keep_9 : decode cX2_keep 9 = .ok (.getfield 18, 3) := by decide +kernel
theorem dX2_keep_12 : decode cX2_keep 12 = .ok (.iadd, 1) := by decide +kernel
theorem dX2_keep_13 : decode cX2_keep 13 = .ok (.bipush 8, 2) := by decide +kernel
theorem dX2_keep_15 : decode cX2_keep 15 = .ok (.irem, 1) := by decide +kernel
theorem dX2_keep_16 : decode cX2_keep 16 = .ok (.aaload, 1) := by decide +kernel
theorem dX2_keep_17 : decode cX2_keep 17 = .ok (.aload_n 1, 1) := by decide +kernel
theorem dX2_keep_18 : decode cX2_keep 18 = .ok (.invokevirtual 25, 3) := by decide +kernel
theorem mwX8_copyFrom : MwV yX8_copyFrom cX8_copyFrom 2 none 1 := ⟨⟨kw693, kw8, by decide +kernel⟩, kw691, kw692⟩
theorem dX2_keep_21 : decode cX2_keep 21 = .ok (.aload_n 0, 1) := by decide +kernel
theorem dX2_keep_22 : decode cX2_keep 22 = .ok (.getfield 18, 3) := by decide +kernel
theorem dX2_keep_25 : decode cX2_keep 25 = .ok (.bipush 8, 2) := by decide +kernel
theorem dX2_keep_27 : decode cX2_keep 27 = .ok (.if_icmp .ge 16, 3) := by decide +kernel
theorem dX2_keep_43 : decode cX2_keep 43 = .ok (.aload_n 0, 1) := by decide +kernel
theorem dX2_keep_44 : decode cX2_keep 44 = .ok (.aload_n 0, 1) := by decide +kernel
theorem dX2_keep_45 : decode cX2_keep 45 = .ok (.getfield 22, 3) := by decide +kernel
theorem dX2_keep_48 : decode cX2_keep 48 = .ok (.iconst 1, 1) := by decide +kernel
theorem dX2_keep_49 : decode cX2_keep 49 = .ok (.iadd, 1) := by decide +kernel
theorem dX2_keep_50 : decode cX2_keep 50 = .ok (.bipush 8, 2) := by decide +kernel
theorem dX2_keep_52 : decode cX2_keep 52 = .ok (.irem, 1) := by decide +kernel
theorem dX2_keep_53 : decode cX2_keep 53 = .ok (.putfield 22, 3) := by decide +kernel
theorem dX2_keep_56 : decode cX2_keep 56 = .ok (.return_, 1) := by decide +kernel
theorem dX2_keep_30 : decode cX2_keep 30 = .ok (.aload_n 0, 1) := by decide +kernel
theorem dX2_keep_31 : decode cX2_keep 31 = .ok (.dup, 1) := by decide +kernel
theorem dX2_keep_32 : decode cX2_keep 32 = .ok (.getfield 18, 3) := by decide +kernel
theorem dX2_keep_35 : decode cX2_keep 35 = .ok (.iconst 1, 1) := by decide +kernel
theorem dX2_keep_36 : decode cX2_keep 36 = .ok (.iadd, 1) := by decide +kernel
theorem dX2_keep_37 : decode cX2_keep 37 = .ok (.putfield 18, 3) := by decide +kernel
theorem dX2_keep_40 : decode cX2_keep 40 = .ok (.goto 16, 3) := by decide +kernel
set_option maxHeartbeats 4000000 in
set_option maxRecDepth 100000 in
theorem s_X2_keep {l : Launch} {G : Gc} (qh : Nat) (qo : Nat) (qh_kept : Nat) (qh_first : Int32) (qh_size : Int32) (qh_kept_c : Nat → Option Nat) (qk : Nat) (qk_hour : Int32) (qk_heat : Int32) (qk_black : Int32) (qk_so : Int32) (qk_cracked : Int32) (qk_behind : Int32) (qk_allSighs : Int32) (qk_seed : Int32) (qk_pictures : Nat) (qk_shown : Nat) (qk_sighed : Nat) (qk_pictures_c : Nat → Int32) (qk_shown_c : Nat → Int32) (qk_sighed_c : Nat → Int32) (qo_hour : Int32) (qo_heat : Int32) (qo_black : Int32) (qo_so : Int32) (qo_cracked : Int32) (qo_behind : Int32) (qo_allSighs : Int32) (qo_seed : Int32) (qo_pictures : Nat) (qo_shown : Nat) (qo_sighed : Nat) (qo_pictures_c : Nat → Int32) (qo_shown_c : Nat → Int32) (qo_sighed_c : Nat → Int32) (k9 : Nat) (hi_qh_first : 0 ≤ qh_first.toInt ∧ qh_first.toInt ≤ 7) (hi_qh_size : 0 ≤ qh_size.toInt ∧ qh_size.toInt ≤ 8) (hi_qo_black : 0 ≤ qo_black.toInt ∧ qo_black.toInt ≤ 1) (hr_0 : (qh_first.toInt + qh_size.toInt) % 8 = (k9 : Int)) (hr_1 : atS qh_kept_c k9 qk) : Cv l yX2_keep cX2_keep 2 2 0 0 G [.ref qh, .ref qo] [(qh, .inr (2, [.ref qh_kept, .int qh_first, .int qh_size])), (qh_kept, eSt G 8 qh_kept_c), (qk, .inr (7, [.int qk_hour, .int qk_heat, .int qk_black, .int qk_so, .int qk_cracked, .int qk_behind, .int qk_allSighs, .int qk_seed, .ref qk_pictures, .ref qk_shown, .ref qk_sighed])), (qk_pictures, eI G 6 qk_pictures_c), (qk_shown, eI G 6 qk_shown_c), (qk_sighed, eI G 8 qk_sighed_c), (qo, .inr (7, [.int qo_hour, .int qo_heat, .int qo_black, .int qo_so, .int qo_cracked, .int qo_behind, .int qo_allSighs, .int qo_seed, .ref qo_pictures, .ref qo_shown, .ref qo_sighed])), (qo_pictures, eI G 6 qo_pictures_c), (qo_shown, eI G 6 qo_shown_c), (qo_sighed, eI G 8 qo_sighed_c)] (fun (u9 : va_W) => ∃ (x0_qh_first : Int32) (x1_qh_size : Int32) (x2_qk_pictures_c : Nat → Int32) (x3_qk_shown_c : Nat → Int32) (x4_qk_sighed_c : Nat → Int32), u9 = [(qh, .inr (2, [.ref qh_kept, .int x0_qh_first, .int x1_qh_size])), (qh_kept, eSt G 8 qh_kept_c), (qk, .inr (7, [.int qo_hour, .int qo_heat, .int qo_black, .int qo_so, .int qo_cracked, .int qo_behind, .int qo_allSighs, .int qk_seed, .ref qk_pictures, .ref qk_shown, .ref qk_sighed])), (qk_pictures, eI G 6 x2_qk_pictures_c), (qk_shown, eI G 6 x3_qk_shown_c), (qk_sighed, eI G 8 x4_qk_sighed_c), (qo, .inr (7, [.int qo_hour, .int qo_heat, .int qo_black, .int qo_so, .int qo_cracked, .int qo_behind, .int qo_allSighs, .int qo_seed, .ref qo_pictures, .ref qo_shown, .ref qo_sighed])), (qo_pictures, eI G 6 qo_pictures_c), (qo_shown, eI G 6 qo_shown_c), (qo_sighed, eI G 8 qo_sighed_c)] ∧ (0 ≤ x0_qh_first.toInt ∧ x0_qh_first.toInt ≤ 7) ∧ (1 ≤ x1_qh_size.toInt ∧ x1_qh_size.toInt ≤ 8)) := by
  refine Cv.ofQ (by decide) (Nat.le_of_ble_eq_true rfl) ?_
  intro p e s m below meth c ls A args Q hQ B hw hl
  have C : CallFix p m c cX2_keep 2 s args gw "LanternState$History" := B.1
  have hl : lv_has ls 2 [(0, .ref qh), (1, .ref qo)] := hl
  refine lv_aload_n C.1 C.2.1 dX2_keep_0 rfl (lv_at hl 0 rfl) ?_
  refine x_get C hw iwX2 2 rfl 0 rfl 0 (by decide) kw303 rfl dX2_keep_1 ?_
  refine lv_aload_n C.1 C.2.1 dX2_keep_4 rfl (lv_at hl 0 rfl) ?_
  refine x_get C hw iwX2 2 rfl 0 rfl 1 (by decide) kw304 rfl dX2_keep_5 ?_
  refine lv_aload_n C.1 C.2.1 dX2_keep_8 rfl (lv_at hl 0 rfl) ?_
  refine x_get C hw iwX2 2 rfl 0 rfl 2 (by decide) kw305 rfl dX2_keep_9 ?_
  refine lv_iadd C.1 C.2.1 dX2_keep_12 (x_genP (fun z : Int32 => z.toInt = qh_first.toInt + qh_size.toInt) (i_add (X := qh_first.toInt) (Y := qh_size.toInt) rfl rfl (by omega) (by omega)) (fun v1 hv1 => ?_))
  refine lv_bipush (v := 8) C.1 C.2.1 dX2_keep_13 (by decide) ?_
  refine lv_irem C.1 C.2.1 dX2_keep_15 (by decide) (x_genP (fun z : Int32 => z.toInt = v1.toInt % 8) (i_remL (X := v1.toInt) (Y := 8) rfl rfl (by omega) (by omega)) (fun v2 hv2 => ?_))
  refine x_aldSt (b := qk) C hw 1 rfl (i_in (by omega) (by omega)) (by show _ = _; rw [show v2.toNatClampNeg = k9 by rw [i_cn]; omega]; exact hr_1) dX2_keep_16 ?_
  refine lv_aload_n C.1 C.2.1 dX2_keep_17 rfl (lv_at hl 1 rfl) ?_
  refine x_callvV (As := [.ref qo]) (rest := []) (wr := [(qh, .inr (2, [.ref qh_kept, .int qh_first, .int qh_size])), (qh_kept, eSt G 8 qh_kept_c)]) C hw (s_X8_copyFrom qk qo qk_hour qk_heat qk_black qk_so qk_cracked qk_behind qk_allSighs qk_seed qk_pictures qk_shown qk_sighed qk_pictures_c qk_shown_c qk_sighed_c qo_hour qo_heat qo_black qo_so qo_cracked qo_behind qo_allSighs qo_seed qo_pictures qo_shown qo_sighed qo_pictures_c qo_shown_c qo_sighed_c (by omega)) mwX8_copyFrom kw744 [2, 3, 4, 5, 6, 7, 8, 9] [0, 1] rfl rfl rfl rfl (by decide) 0 rfl rfl rfl rfl hl.1 rfl (Nat.le_of_ble_eq_true rfl) ⟨(Nat.le_of_ble_eq_true rfl), (Nat.le_of_ble_eq_true rfl)⟩ ⟨(Nat.le_of_ble_eq_true rfl), (Nat.le_of_ble_eq_true rfl)⟩ dX2_keep_18 (fun  u9 H locs hp9 hw => ?_)
  obtain ⟨x3, x4, x5, rfl⟩ := hp9
  have hw : Wd G s A [(qh, .inr (2, [.ref qh_kept, .int qh_first, .int qh_size])), (qh_kept, eSt G 8 qh_kept_c), (qk, .inr (7, [.int qo_hour, .int qo_heat, .int qo_black, .int qo_so, .int qo_cracked, .int qo_behind, .int qo_allSighs, .int qk_seed, .ref qk_pictures, .ref qk_shown, .ref qk_sighed])), (qk_pictures, eI G 6 x3), (qk_shown, eI G 6 x4), (qk_sighed, eI G 8 x5), (qo, .inr (7, [.int qo_hour, .int qo_heat, .int qo_black, .int qo_so, .int qo_cracked, .int qo_behind, .int qo_allSighs, .int qo_seed, .ref qo_pictures, .ref qo_shown, .ref qo_sighed])), (qo_pictures, eI G 6 qo_pictures_c), (qo_shown, eI G 6 qo_shown_c), (qo_sighed, eI G 8 qo_sighed_c)] H _ := hw
  refine lv_aload_n C.1 C.2.1 dX2_keep_21 rfl (lv_at hl 0 rfl) ?_
  refine x_get C hw iwX2 2 rfl 0 rfl 2 (by decide) kw305 rfl dX2_keep_22 ?_
  refine lv_bipush (v := 8) C.1 C.2.1 dX2_keep_25 (by decide) ?_
  refine lv_icmp_ge (tgt := 43) C.1 C.2.1 dX2_keep_27 (by decide) (fun c6 => ?_) (fun c6 => ?_)
  · skip
    have c6 : 8 ≤ qh_size.toInt := i_leT (X := 8) (Y := qh_size.toInt) rfl rfl c6
    refine lv_aload_n C.1 C.2.1 dX2_keep_43 rfl (lv_at hl 0 rfl) ?_
    refine lv_aload_n C.1 C.2.1 dX2_keep_44 rfl (lv_at hl 0 rfl) ?_
    refine x_get C hw iwX2 2 rfl 0 rfl 1 (by decide) kw304 rfl dX2_keep_45 ?_
    refine lv_iconst (v := 1) C.1 C.2.1 dX2_keep_48 (by decide) ?_
    refine lv_iadd C.1 C.2.1 dX2_keep_49 (x_genP (fun z : Int32 => z.toInt = qh_first.toInt + 1) (i_add (X := qh_first.toInt) (Y := 1) rfl rfl (by omega) (by omega)) (fun v7 hv7 => ?_))
    refine lv_bipush (v := 8) C.1 C.2.1 dX2_keep_50 (by decide) ?_
    refine lv_irem C.1 C.2.1 dX2_keep_52 (by decide) (x_genP (fun z : Int32 => z.toInt = v7.toInt % 8) (i_remL (X := v7.toInt) (Y := 8) rfl rfl (by omega) (by omega)) (fun v8 hv8 => ?_))
    refine x_put (w' := [(qh, .inr (2, [.ref qh_kept, .int v8, .int qh_size])), (qh_kept, eSt G 8 qh_kept_c), (qk, .inr (7, [.int qo_hour, .int qo_heat, .int qo_black, .int qo_so, .int qo_cracked, .int qo_behind, .int qo_allSighs, .int qk_seed, .ref qk_pictures, .ref qk_shown, .ref qk_sighed])), (qk_pictures, eI G 6 x3), (qk_shown, eI G 6 x4), (qk_sighed, eI G 8 x5), (qo, .inr (7, [.int qo_hour, .int qo_heat, .int qo_black, .int qo_so, .int qo_cracked, .int qo_behind, .int qo_allSighs, .int qo_seed, .ref qo_pictures, .ref qo_shown, .ref qo_sighed])), (qo_pictures, eI G 6 qo_pictures_c), (qo_shown, eI G 6 qo_shown_c), (qo_sighed, eI G 8 qo_sighed_c)]) C hw iwX2 tyX2_ok nmX2 2 rfl 0 rfl 1 (by decide) kw304 rfl rfl rfl (Nat.le_of_ble_eq_true rfl) rfl dX2_keep_53 (fun H locs hw => ?_)
    exact x_retvQ hQ B hw ⟨v8, qh_size, x3, x4, x5, rfl, (by omega), (by omega)⟩ (Nat.le_of_ble_eq_true rfl) (Nat.le_of_ble_eq_true rfl) dX2_keep_56
  · skip
    have c6 : qh_size.toInt < 8 := i_leF (X := 8) (Y := qh_size.toInt) rfl rfl c6
    refine lv_aload_n C.1 C.2.1 dX2_keep_30 rfl (lv_at hl 0 rfl) ?_
    refine lv_dup C.1 C.2.1 dX2_keep_31 rfl ?_
    refine x_get C hw iwX2 2 rfl 0 rfl 2 (by decide) kw305 rfl dX2_keep_32 ?_
    refine lv_iconst (v := 1) C.1 C.2.1 dX2_keep_35 (by decide) ?_
    refine lv_iadd C.1 C.2.1 dX2_keep_36 (x_genP (fun z : Int32 => z.toInt = qh_size.toInt + 1) (i_add (X := qh_size.toInt) (Y := 1) rfl rfl (by omega) (by omega)) (fun v9 hv9 => ?_))
    refine x_put (w' := [(qh, .inr (2, [.ref qh_kept, .int qh_first, .int v9])), (qh_kept, eSt G 8 qh_kept_c), (qk, .inr (7, [.int qo_hour, .int qo_heat, .int qo_black, .int qo_so, .int qo_cracked, .int qo_behind, .int qo_allSighs, .int qk_seed, .ref qk_pictures, .ref qk_shown, .ref qk_sighed])), (qk_pictures, eI G 6 x3), (qk_shown, eI G 6 x4), (qk_sighed, eI G 8 x5), (qo, .inr (7, [.int qo_hour, .int qo_heat, .int qo_black, .int qo_so, .int qo_cracked, .int qo_behind, .int qo_allSighs, .int qo_seed, .ref qo_pictures, .ref qo_shown, .ref qo_sighed])), (qo_pictures, eI G 6 qo_pictures_c), (qo_shown, eI G 6 qo_shown_c), (qo_sighed, eI G 8 qo_sighed_c)]) C hw iwX2 tyX2_ok nmX2 2 rfl 0 rfl 2 (by decide) kw305 rfl rfl rfl (Nat.le_of_ble_eq_true rfl) rfl dX2_keep_37 (fun H locs hw => ?_)
    refine lv_goto (tgt := 56) C.1 C.2.1 dX2_keep_40 (by decide) ?_
    exact x_retvQ hQ B hw ⟨qh_first, v9, x3, x4, x5, rfl, (by omega), (by omega)⟩ (Nat.le_of_ble_eq_true rfl) (Nat.le_of_ble_eq_true rfl) dX2_keep_56
theorem dX2_takeBack_0 : decode cX2_takeBack 0 = .ok (.aload_n 0, 1) := by decide +kernel
theorem dX2_takeBack_1 : decode cX2_takeBack 1 = .ok (.getfield 18, 3) := by decide +kernel
theorem dX2_takeBack_4 : decode cX2_takeBack 4 = .ok (.ifCond .le 34, 3) := by decide +kernel
theorem dX2_takeBack_38 : decode cX2_takeBack 38 = .ok (.return_, 1) := by decide +kernel
theorem dX2_takeBack_7 : decode cX2_takeBack 7 = .ok (.aload_n 0, 1) := by decide +kernel
theorem dX2_takeBack_8 : decode cX2_takeBack 8 = .ok (.dup, 1) := by decide +kernel
theorem dX2_takeBack_9 : decode cX2_takeBack 9 = .ok (.getfield 18, 3) := by decide +kernel
theorem dX2_takeBack_12 : decode cX2_takeBack 12 = .ok (.iconst 1, 1) := by decide +kernel
theorem dX2_takeBack_13 : decode cX2_takeBack 13 = .ok (.isub, 1) := by decide +kernel
theorem dX2_takeBack_14 : decode cX2_takeBack 14 = .ok (.putfield 18, 3) := by decide +kernel
theorem dX2_takeBack_17 : decode cX2_takeBack 17 = .ok (.aload_n 1, 1) := by decide +kernel
theorem dX2_takeBack_18 : decode cX2_takeBack 18 = .ok (.aload_n 0, 1) := by decide +kernel
theorem dX2_takeBack_19 : decode cX2_takeBack 19 = .ok (.getfield 11, 3) := by decide +kernel
theorem dX2_takeBack_22 : decode cX2_takeBack 22 = .ok (.aload_n 0, 1) := by decide +kernel
theorem dX2_takeBack_23 : decode cX2_takeBack 23 = .ok (.getfield 22, 3) := by decide +kernel
theorem dX2_takeBack_26 : decode cX2_takeBack 26 = .ok (.aload_n 0, 1) := by decide +kernel
theorem dX2_takeBack_27 : decode cX2_takeBack 27 = .ok (.getfield 18, 3) := by decide +kernel
theorem dX2_takeBack_30 : decode cX2_takeBack 30 = .ok (.iadd, 1) := by decide +kernel
theorem dX2_takeBack_31 : decode cX2_takeBack 31 = .ok (.bipush 8, 2) := by decide +kernel
theorem dX2_takeBack_33 : decode cX2_takeBack 33 = .ok (.irem, 1) := by decide +kernel
theorem dX2_takeBack_34 : decode cX2_takeBack 34 = .ok (.aaload, 1) := by decide +kernel
theorem dX2_takeBack_35 : decode cX2_takeBack 35 = .ok (.invokevirtual 25, 3) := by decide +kernel
set_option maxHeartbeats 4000000 in
set_option maxRecDepth 100000 in
theorem s_X2_takeBack {l : Launch} {G : Gc} (qh : Nat) (qo : Nat) (qh_kept : Nat) (qh_first : Int32) (qh_size : Int32) (qh_kept_c : Nat → Option Nat) (qk : Nat) (qk_hour : Int32) (qk_heat : Int32) (qk_black : Int32) (qk_so : Int32) (qk_cracked : Int32) (qk_behind : Int32) (qk_allSighs : Int32) (qk_seed : Int32) (qk_pictures : Nat) (qk_shown : Nat) (qk_sighed : Nat) (qk_pictures_c : Nat → Int32) (qk_shown_c : Nat → Int32) (qk_sighed_c : Nat → Int32) (qo_hour : Int32) (qo_heat : Int32) (qo_black : Int32) (qo_so : Int32) (qo_cracked : Int32) (qo_behind : Int32) (qo_allSighs : Int32) (qo_seed : Int32) (qo_pictures : Nat) (qo_shown : Nat) (qo_sighed : Nat) (qo_pictures_c : Nat → Int32) (qo_shown_c : Nat → Int32) (qo_sighed_c : Nat → Int32) (k9 : Nat) (hi_qh_first : 0 ≤ qh_first.toInt ∧ qh_first.toInt ≤ 7) (hi_qh_size : 0 ≤ qh_size.toInt ∧ qh_size.toInt ≤ 8) (hi_qk_black : 0 ≤ qk_black.toInt ∧ qk_black.toInt ≤ 1) (hi_qo_black : 0 ≤ qo_black.toInt ∧ qo_black.toInt ≤ 1) (hr_0 : 1 ≤ qh_size.toInt → (qh_first.toInt + qh_size.toInt - 1) % 8 = (k9 : Int)) (hr_1 : atS qh_kept_c k9 qk) : Cv l yX2_takeBack cX2_takeBack 2 2 0 0 G [.ref qh, .ref qo] [(qh, .inr (2, [.ref qh_kept, .int qh_first, .int qh_size])), (qh_kept, eSt G 8 qh_kept_c), (qk, .inr (7, [.int qk_hour, .int qk_heat, .int qk_black, .int qk_so, .int qk_cracked, .int qk_behind, .int qk_allSighs, .int qk_seed, .ref qk_pictures, .ref qk_shown, .ref qk_sighed])), (qk_pictures, eI G 6 qk_pictures_c), (qk_shown, eI G 6 qk_shown_c), (qk_sighed, eI G 8 qk_sighed_c), (qo, .inr (7, [.int qo_hour, .int qo_heat, .int qo_black, .int qo_so, .int qo_cracked, .int qo_behind, .int qo_allSighs, .int qo_seed, .ref qo_pictures, .ref qo_shown, .ref qo_sighed])), (qo_pictures, eI G 6 qo_pictures_c), (qo_shown, eI G 6 qo_shown_c), (qo_sighed, eI G 8 qo_sighed_c)] (fun (u9 : va_W) => ∃ (x0_qh_size : Int32) (x1_qo_hour : Int32) (x2_qo_heat : Int32) (x3_qo_black : Int32) (x4_qo_so : Int32) (x5_qo_cracked : Int32) (x6_qo_behind : Int32) (x7_qo_allSighs : Int32) (x8_qo_pictures_c : Nat → Int32) (x9_qo_shown_c : Nat → Int32) (x10_qo_sighed_c : Nat → Int32), u9 = [(qh, .inr (2, [.ref qh_kept, .int qh_first, .int x0_qh_size])), (qh_kept, eSt G 8 qh_kept_c), (qk, .inr (7, [.int qk_hour, .int qk_heat, .int qk_black, .int qk_so, .int qk_cracked, .int qk_behind, .int qk_allSighs, .int qk_seed, .ref qk_pictures, .ref qk_shown, .ref qk_sighed])), (qk_pictures, eI G 6 qk_pictures_c), (qk_shown, eI G 6 qk_shown_c), (qk_sighed, eI G 8 qk_sighed_c), (qo, .inr (7, [.int x1_qo_hour, .int x2_qo_heat, .int x3_qo_black, .int x4_qo_so, .int x5_qo_cracked, .int x6_qo_behind, .int x7_qo_allSighs, .int qo_seed, .ref qo_pictures, .ref qo_shown, .ref qo_sighed])), (qo_pictures, eI G 6 x8_qo_pictures_c), (qo_shown, eI G 6 x9_qo_shown_c), (qo_sighed, eI G 8 x10_qo_sighed_c)] ∧ (0 ≤ x0_qh_size.toInt ∧ x0_qh_size.toInt ≤ 7) ∧ (0 ≤ x3_qo_black.toInt ∧ x3_qo_black.toInt ≤ 1)) := by
  refine Cv.ofQ (by decide) (Nat.le_of_ble_eq_true rfl) ?_
  intro p e s m below meth c ls A args Q hQ B hw hl
  have C : CallFix p m c cX2_takeBack 2 s args gw "LanternState$History" := B.1
  have hl : lv_has ls 2 [(0, .ref qh), (1, .ref qo)] := hl
  refine lv_aload_n C.1 C.2.1 dX2_takeBack_0 rfl (lv_at hl 0 rfl) ?_
  refine x_get C hw iwX2 2 rfl 0 rfl 2 (by decide) kw305 rfl dX2_takeBack_1 ?_
  refine lv_if_le (tgt := 38) C.1 C.2.1 dX2_takeBack_4 (by decide) (fun c1 => ?_) (fun c1 => ?_)
  · skip
    have c1 : qh_size.toInt ≤ 0 := i_leT (X := qh_size.toInt) (Y := 0) rfl rfl c1
    exact x_retvQ hQ B hw ⟨qh_size, qo_hour, qo_heat, qo_black, qo_so, qo_cracked, qo_behind, qo_allSighs, qo_pictures_c, qo_shown_c, qo_sighed_c, rfl, (by omega), (by omega)⟩ (Nat.le_of_ble_eq_true rfl) (Nat.le_of_ble_eq_true rfl) dX2_takeBack_38
  · skip
    have c1 : 0 < qh_size.toInt := i_leF (X := qh_size.toInt) (Y := 0) rfl rfl c1
    refine lv_aload_n C.1 C.2.1 dX2_takeBack_7 rfl (lv_at hl 0 rfl) ?_
    refine lv_dup C.1 C.2.1 dX2_takeBack_8 rfl ?_
    refine x_get C hw iwX2 2 rfl 0 rfl 2 (by decide) kw305 rfl dX2_takeBack_9 ?_
    refine lv_iconst (v := 1) C.1 C.2.1 dX2_takeBack_12 (by decide) ?_
    refine lv_isub C.1 C.2.1 dX2_takeBack_13 (x_genP (fun z : Int32 => z.toInt = qh_size.toInt - 1) (i_sub (X := qh_size.toInt) (Y := 1) rfl rfl (by omega) (by omega)) (fun v2 hv2 => ?_))
    refine x_put (w' := [(qh, .inr (2, [.ref qh_kept, .int qh_first, .int v2])), (qh_kept, eSt G 8 qh_kept_c), (qk, .inr (7, [.int qk_hour, .int qk_heat, .int qk_black, .int qk_so, .int qk_cracked, .int qk_behind, .int qk_allSighs, .int qk_seed, .ref qk_pictures, .ref qk_shown, .ref qk_sighed])), (qk_pictures, eI G 6 qk_pictures_c), (qk_shown, eI G 6 qk_shown_c), (qk_sighed, eI G 8 qk_sighed_c), (qo, .inr (7, [.int qo_hour, .int qo_heat, .int qo_black, .int qo_so, .int qo_cracked, .int qo_behind, .int qo_allSighs, .int qo_seed, .ref qo_pictures, .ref qo_shown, .ref qo_sighed])), (qo_pictures, eI G 6 qo_pictures_c), (qo_shown, eI G 6 qo_shown_c), (qo_sighed, eI G 8 qo_sighed_c)]) C hw iwX2 tyX2_ok nmX2 2 rfl 0 rfl 2 (by decide) kw305 rfl rfl rfl (Nat.le_of_ble_eq_true rfl) rfl dX2_takeBack_14 (fun H locs hw => ?_)
    refine lv_aload_n C.1 C.2.1 dX2_takeBack_17 rfl (lv_at hl 1 rfl) ?_
    refine lv_aload_n C.1 C.2.1 dX2_takeBack_18 rfl (lv_at hl 0 rfl) ?_
    refine x_get C hw iwX2 2 rfl 0 rfl 0 (by decide) kw303 rfl dX2_takeBack_19 ?_
    refine lv_aload_n C.1 C.2.1 dX2_takeBack_22 rfl (lv_at hl 0 rfl) ?_
    refine x_get C hw iwX2 2 rfl 0 rfl 1 (by decide) kw304 rfl dX2_takeBack_23 ?_
    refine lv_aload_n C.1 C.2.1 dX2_takeBack_26 rfl (lv_at hl 0 rfl) ?_
    refine x_get C hw iwX2 2 rfl 0 rfl 2 (by decide) kw305 rfl dX2_takeBack_27 ?_
    refine lv_iadd C.1 C.2.1 dX2_takeBack_30 (x_genP (fun z : Int32 => z.toInt = qh_first.toInt + v2.toInt) (i_add (X := qh_first.toInt) (Y := v2.toInt) rfl rfl (by omega) (by omega)) (fun v3 hv3 => ?_))
    refine lv_bipush (v := 8) C.1 C.2.1 dX2_takeBack_31 (by decide) ?_
    refine lv_irem C.1 C.2.1 dX2_takeBack_33 (by decide) (x_genP (fun z : Int32 => z.toInt = v3.toInt % 8) (i_remL (X := v3.toInt) (Y := 8) rfl rfl (by omega) (by omega)) (fun v4 hv4 => ?_))
    refine x_aldSt (b := qk) C hw 1 rfl (i_in (by omega) (by omega)) (by show _ = _; rw [show v4.toNatClampNeg = k9 by rw [i_cn]; omega]; exact hr_1) dX2_takeBack_34 ?_
    refine x_callvV (As := [.ref qk]) (rest := []) (wr := [(qh, .inr (2, [.ref qh_kept, .int qh_first, .int v2])), (qh_kept, eSt G 8 qh_kept_c)]) C hw (s_X8_copyFrom qo qk qo_hour qo_heat qo_black qo_so qo_cracked qo_behind qo_allSighs qo_seed qo_pictures qo_shown qo_sighed qo_pictures_c qo_shown_c qo_sighed_c qk_hour qk_heat qk_black qk_so qk_cracked qk_behind qk_allSighs qk_seed qk_pictures qk_shown qk_sighed qk_pictures_c qk_shown_c qk_sighed_c (by omega)) mwX8_copyFrom kw744 [6, 7, 8, 9, 2, 3, 4, 5] [0, 1] rfl rfl rfl rfl (by decide) 0 rfl rfl rfl rfl hl.1 rfl (Nat.le_of_ble_eq_true rfl) ⟨(Nat.le_of_ble_eq_true rfl), (Nat.le_of_ble_eq_true rfl)⟩ ⟨(Nat.le_of_ble_eq_true rfl), (Nat.le_of_ble_eq_true rfl)⟩ dX2_takeBack_35 (fun  u9 H locs hp9 hw => ?_)
    obtain ⟨x5, x6, x7, rfl⟩ := hp9
    have hw : Wd G s A [(qh, .inr (2, [.ref qh_kept, .int qh_first, .int v2])), (qh_kept, eSt G 8 qh_kept_c), (qo, .inr (7, [.int qk_hour, .int qk_heat, .int qk_black, .int qk_so, .int qk_cracked, .int qk_behind, .int qk_allSighs, .int qo_seed, .ref qo_pictures, .ref qo_shown, .ref qo_sighed])), (qo_pictures, eI G 6 x5), (qo_shown, eI G 6 x6), (qo_sighed, eI G 8 x7), (qk, .inr (7, [.int qk_hour, .int qk_heat, .int qk_black, .int qk_so, .int qk_cracked, .int qk_behind, .int qk_allSighs, .int qk_seed, .ref qk_pictures, .ref qk_shown, .ref qk_sighed])), (qk_pictures, eI G 6 qk_pictures_c), (qk_shown, eI G 6 qk_shown_c), (qk_sighed, eI G 8 qk_sighed_c)] H _ := hw
    have hw := hw.sub (w' := [(qh, .inr (2, [.ref qh_kept, .int qh_first, .int v2])), (qh_kept, eSt G 8 qh_kept_c), (qk, .inr (7, [.int qk_hour, .int qk_heat, .int qk_black, .int qk_so, .int qk_cracked, .int qk_behind, .int qk_allSighs, .int qk_seed, .ref qk_pictures, .ref qk_shown, .ref qk_sighed])), (qk_pictures, eI G 6 qk_pictures_c), (qk_shown, eI G 6 qk_shown_c), (qk_sighed, eI G 8 qk_sighed_c), (qo, .inr (7, [.int qk_hour, .int qk_heat, .int qk_black, .int qk_so, .int qk_cracked, .int qk_behind, .int qk_allSighs, .int qo_seed, .ref qo_pictures, .ref qo_shown, .ref qo_sighed])), (qo_pictures, eI G 6 x5), (qo_shown, eI G 6 x6), (qo_sighed, eI G 8 x7)]) [0, 1, 6, 7, 8, 9, 2, 3, 4, 5] rfl rfl
    exact x_retvQ hQ B hw ⟨v2, qk_hour, qk_heat, qk_black, qk_so, qk_cracked, qk_behind, qk_allSighs, x5, x6, x7, rfl, (by omega), (by omega)⟩ (Nat.le_of_ble_eq_true rfl) (Nat.le_of_ble_eq_true rfl) dX2_takeBack_38
theorem dX0_putLetter_0 : decode cX0_putLetter 0 = .ok (.aload_n 0, 1) := by decide +kernel
theorem dX0_putLetter_1 : decode cX0_putLetter 1 = .ok (.getfield 15, 3) := by decide +kernel
theorem dX0_putLetter_4 : decode cX0_putLetter 4 = .ok (.bipush 40, 2) := by decide +kernel
theorem dX0_putLetter_6 : decode cX0_putLetter 6 = .ok (.if_icmp .ge 23, 3) := by decide +kernel
theorem dX0_putLetter_29 : decode cX0_putLetter 29 = .ok (.return_, 1) := by decide +kernel
theorem dX0_putLetter_9 : decode cX0_putLetter 9 = .ok (.aload_n 0, 1) := by decide +kernel
theorem dX0_putLetter_10 : decode cX0_putLetter 10 = .ok (.getfield 11, 3) := by decide +kernel
theorem dX0_putLetter_13 : decode cX0_putLetter 13 = .ok (.aload_n 0, 1) := by decide +kernel
theorem dX0_putLetter_14 : decode cX0_putLetter 14 = .ok (.getfield 15, 3) := by decide +kernel
theorem dX0_putLetter_17 : decode cX0_putLetter 17 = .ok (.iload_n 1, 1) := by decide +kernel
theorem dX0_putLetter_18 : decode cX0_putLetter 18 = .ok (.castore, 1) := by decide +kernel
theorem dX0_putLetter_19 : decode cX0_putLetter 19 = .ok (.aload_n 0, 1) := by decide +kernel
theorem dX0_putLetter_20 : decode cX0_putLetter 20 = .ok (.dup, 1) := by decide +kernel
theorem dX0_putLetter_21 : decode cX0_putLetter 21 = .ok (.getfield 15, 3) := by decide +kernel
theorem dX0_putLetter_24 : decode cX0_putLetter 24 = .ok (.iconst 1, 1) := by decide +kernel
theorem dX0_putLetter_25 : decode cX0_putLetter 25 = .ok (.iadd, 1) := by decide +kernel
theorem dX0_putLetter_26 : decode cX0_putLetter 26 = .ok (.putfield 15, 3) := by decide +kernel
set_option maxHeartbeats 4000000 in
set_option maxRecDepth 100000 in
theorem s_X0_putLetter {l : Launch} {G : Gc} (qn : Nat) (a1 : Int32) (qn_letters : Nat) (qn_size : Int32) (qn_letters_c : Nat → Int32) (hi_qn_size : 0 ≤ qn_size.toInt ∧ qn_size.toInt ≤ 40) : Cv l yX0_putLetter cX0_putLetter 2 0 0 0 G [.ref qn, .int a1] [(qn, .inr (0, [.ref qn_letters, .int qn_size])), (qn_letters, eC G 40 qn_letters_c)] (fun (u9 : va_W) => ∃ (x0_qn_size : Int32) (x1_qn_letters_c : Nat → Int32), u9 = [(qn, .inr (0, [.ref qn_letters, .int x0_qn_size])), (qn_letters, eC G 40 x1_qn_letters_c)] ∧ (1 ≤ x0_qn_size.toInt ∧ x0_qn_size.toInt ≤ 40)) := by
  refine Cv.ofQ (by decide) (Nat.le_of_ble_eq_true rfl) ?_
  intro p e s m below meth c ls A args Q hQ B hw hl
  have C : CallFix p m c cX0_putLetter 2 s args gw "LanternState$Bill" := B.1
  have hl : lv_has ls 2 [(0, .ref qn), (1, .int a1)] := hl
  refine lv_aload_n C.1 C.2.1 dX0_putLetter_0 rfl (lv_at hl 0 rfl) ?_
  refine x_get C hw iwX0 0 rfl 0 rfl 1 (by decide) kw409 rfl dX0_putLetter_1 ?_
  refine lv_bipush (v := 40) C.1 C.2.1 dX0_putLetter_4 (by decide) ?_
  refine lv_icmp_ge (tgt := 29) C.1 C.2.1 dX0_putLetter_6 (by decide) (fun c1 => ?_) (fun c1 => ?_)
  · skip
    have c1 : 40 ≤ qn_size.toInt := i_leT (X := 40) (Y := qn_size.toInt) rfl rfl c1
    exact x_retvQ hQ B hw ⟨qn_size, qn_letters_c, rfl, (by omega)⟩ (Nat.le_of_ble_eq_true rfl) (Nat.le_of_ble_eq_true rfl) dX0_putLetter_29
  · skip
    have c1 : qn_size.toInt < 40 := i_leF (X := 40) (Y := qn_size.toInt) rfl rfl c1
    refine lv_aload_n C.1 C.2.1 dX0_putLetter_9 rfl (lv_at hl 0 rfl) ?_
    refine x_get C hw iwX0 0 rfl 0 rfl 0 (by decide) kw407 rfl dX0_putLetter_10 ?_
    refine lv_aload_n C.1 C.2.1 dX0_putLetter_13 rfl (lv_at hl 0 rfl) ?_
    refine x_get C hw iwX0 0 rfl 0 rfl 1 (by decide) kw409 rfl dX0_putLetter_14 ?_
    refine lv_iload_n C.1 C.2.1 dX0_putLetter_17 rfl (lv_at hl 1 rfl) ?_
    obtain ⟨g2, eg2⟩ : ∃ z, upd qn_letters_c (qn_size.toNatClampNeg) (vp_nar .char a1) = z := ⟨_, rfl⟩
    refine x_cast (f' := g2) (w' := [(qn, .inr (0, [.ref qn_letters, .int qn_size])), (qn_letters, eC G 40 g2)]) C hw 1 rfl (i_in (by omega) (by omega)) eg2 rfl dX0_putLetter_18 (fun H locs hw => ?_)
    refine lv_aload_n C.1 C.2.1 dX0_putLetter_19 rfl (lv_at hl 0 rfl) ?_
    refine lv_dup C.1 C.2.1 dX0_putLetter_20 rfl ?_
    refine x_get C hw iwX0 0 rfl 0 rfl 1 (by decide) kw409 rfl dX0_putLetter_21 ?_
    refine lv_iconst (v := 1) C.1 C.2.1 dX0_putLetter_24 (by decide) ?_
    refine lv_iadd C.1 C.2.1 dX0_putLetter_25 (x_genP (fun z : Int32 => z.toInt = qn_size.toInt + 1) (i_add (X := qn_size.toInt) (Y := 1) rfl rfl (by omega) (by omega)) (fun v3 hv3 => ?_))
    refine x_put (w' := [(qn, .inr (0, [.ref qn_letters, .int v3])), (qn_letters, eC G 40 g2)]) C hw iwX0 tyX0_ok nmX0 0 rfl 0 rfl 1 (by decide) kw409 rfl rfl rfl (Nat.le_of_ble_eq_true rfl) rfl dX0_putLetter_26 (fun H locs hw => ?_)
    exact x_retvQ hQ B hw ⟨v3, g2, rfl, (by omega)⟩ (Nat.le_of_ble_eq_true rfl) (Nat.le_of_ble_eq_true rfl) dX0_putLetter_29
theorem dX0_put_0 : decode cX0_put 0 = .ok (.iconst 0, 1) := by decide +kernel
theorem dX0_put_1 : decode cX0_put 1 = .ok (.istore_n 2, 1) := by decide +kernel
theorem dX0_put_2 : decode cX0_put 2 = .ok (.iload_n 2, 1) := by decide +kernel
theorem dX0_put_3 : decode cX0_put 3 = .ok (.aload_n 1, 1) := by decide +kernel
theorem dX0_put_4 : decode cX0_put 4 = .ok (.invokevirtual 53, 3) := by decide +kernel
theorem dX0_put_7 : decode cX0_put 7 = .ok (.if_icmp .ge 18, 3) := by decide +kernel
theorem dX0_put_10 : decode cX0_put 10 = .ok (.aload_n 0, 1) := by decide +kernel
theorem dX0_put_11 : decode cX0_put 11 = .ok (.aload_n 1, 1) := by decide +kernel
theorem dX0_put_12 : decode cX0_put 12 = .ok (.iload_n 2, 1) := by decide +kernel
theorem dX0_put_13 : decode cX0_put 13 = .ok (.invokevirtual 59, 3) := by decide +kernel
theorem dX0_put_16 : decode cX0_put 16 = .ok (.invokevirtual 63, 3) := by decide +kernel
theorem mwX0_putLetter : MwV yX0_putLetter cX0_putLetter 2 none 1 := ⟨⟨kw918, kw13, by decide +kernel⟩, kw917, kS24⟩
theorem dX0_put_19 : decode cX0_put 19 = .ok (.iinc 2 1, 3) := by decide +kernel
theorem dX0_put_22 : decode cX0_put 22 = .ok (.goto (-20), 3) := by decide +kernel
theorem dX0_put_25 : decode cX0_put 25 = .ok (.return_, 1) := by decide +kernel
set_option maxHeartbeats 4000000 in
set_option maxRecDepth 100000 in
theorem s_X0_put {l : Launch} {G : Gc} (qn : Nat) (qn_letters : Nat) (qn_size : Int32) (qn_letters_c : Nat → Int32) (i9 : Nat) (hi_qn_size : 0 ≤ qn_size.toInt ∧ qn_size.toInt ≤ 40) (hr_0 : i9 < 7) : Cv l yX0_put cX0_put 3 4 0 0 G [.ref qn, .ref (G.2.2.1 i9)] [(qn, .inr (0, [.ref qn_letters, .int qn_size])), (qn_letters, eC G 40 qn_letters_c)] (fun (u9 : va_W) => ∃ (x0_qn_size : Int32) (x1_qn_letters_c : Nat → Int32), u9 = [(qn, .inr (0, [.ref qn_letters, .int x0_qn_size])), (qn_letters, eC G 40 x1_qn_letters_c)] ∧ (0 ≤ x0_qn_size.toInt ∧ x0_qn_size.toInt ≤ 40)) := by
  refine Cv.ofQ (by decide) (Nat.le_of_ble_eq_true rfl) ?_
  intro p e s m below meth c ls A args Q hQ B hw hl
  have C : CallFix p m c cX0_put 3 s args gw "LanternState$Bill" := B.1
  have hl : lv_has ls 3 [(0, .ref qn), (1, .ref (G.2.2.1 i9))] := hl
  refine lv_iconst (v := 0) C.1 C.2.1 dX0_put_0 (by decide) ?_
  refine lv_istore_n (lv' := [(2, .int 0), (0, .ref qn), (1, .ref (G.2.2.1 i9))]) C.1 C.2.1 dX0_put_1 rfl hl (by decide) rfl (fun ls hl => ?_)
  have loopJ300 : ∀ (n9 : Nat) (j297 : Int32) (j298 : Int32) (j299 : Nat → Int32), (2147483647 - j297.toInt).toNat < n9 → (0 ≤ j298.toInt ∧ j298.toInt ≤ 40) → (0 ≤ j297.toInt) → ∀ (H : Heap) (locs : List Loc) (ls : Array Slot), Wd G s A [(qn, .inr (0, [.ref qn_letters, .int j298])), (qn_letters, eC G 40 j299)] H locs → lv_has ls 3 [(2, .int j297), (0, .ref qn), (1, .ref (G.2.2.1 i9))] → W p l e (rmD 4 0 0) s m args below meth c H locs 0 0 Q (F0 m 2 ls []) := by
    intro n9
    induction n9 with
    | zero => intro j297 j298 j299 h9; exact absurd h9 (Nat.not_lt_zero _)
    | succ n9 ihJ300 =>
      intro j297 j298 j299 h9J300 hJ300_0 hJ300_1 H locs ls hw hl
      have hbj297 := i_bd j297
      refine lv_iload_n C.1 C.2.1 dX0_put_2 rfl (lv_at hl 0 rfl) ?_
      refine lv_aload_n C.1 C.2.1 dX0_put_3 rfl (lv_at hl 2 rfl) ?_
      refine x_calliVR (As := []) (rest := [.int j297]) (wr := [(qn, .inr (0, [.ref qn_letters, .int j298])), (qn_letters, eC G 40 j299)]) C hw (c_J0_length i9 hr_0) mwJ0_length_8abf5 kw924 [] [0, 1] rfl rfl rfl rfl (by decide) (vk_recv hw.2.2.2.2.2.1 hr_0 hw.2.2.2.1) rfl hl.1 rfl (Nat.le_of_ble_eq_true rfl) ⟨(Nat.le_of_ble_eq_true rfl), (Nat.le_of_ble_eq_true rfl)⟩ ⟨(Nat.le_of_ble_eq_true rfl), (Nat.le_of_ble_eq_true rfl)⟩ dX0_put_4 (fun r9 u9 H locs hp9 hw => ?_)
      obtain ⟨rfl, rfl⟩ := hp9
      have hw : Wd G s A [(qn, .inr (0, [.ref qn_letters, .int j298])), (qn_letters, eC G 40 j299)] H _ := hw
      refine (x_genP (fun z : Int32 => z.toInt = ((lenJS.getD i9 0 : Nat) : Int)) (nI_toInt (len31 i9 hr_0)) (fun v313 hv313 => ?_))
      refine lv_icmp_ge (tgt := 25) C.1 C.2.1 dX0_put_7 (by decide) (fun c314 => ?_) (fun c314 => ?_)
      · skip
        have c314 : v313.toInt ≤ j297.toInt := i_leT (X := v313.toInt) (Y := j297.toInt) rfl rfl c314
        have bc314_j297 := i_bd j297
        have bc314_v313 := i_bd v313
        exact x_retvQ hQ B hw ⟨j298, j299, rfl, (by omega)⟩ (Nat.le_of_ble_eq_true rfl) (Nat.le_of_ble_eq_true rfl) dX0_put_25
      · skip
        have c314 : j297.toInt < v313.toInt := i_leF (X := v313.toInt) (Y := j297.toInt) rfl rfl c314
        have bc314_j297 := i_bd j297
        have bc314_v313 := i_bd v313
        refine lv_aload_n C.1 C.2.1 dX0_put_10 rfl (lv_at hl 1 rfl) ?_
        refine lv_aload_n C.1 C.2.1 dX0_put_11 rfl (lv_at hl 2 rfl) ?_
        refine lv_iload_n C.1 C.2.1 dX0_put_12 rfl (lv_at hl 0 rfl) ?_
        obtain ⟨k315, hkk315, ekk315, eik315⟩ := i_nat (x := j297) (by omega)
        refine x_topi (z := nI k315) ekk315 ?_
        refine x_calliVR (As := [.int (nI k315)]) (rest := [.ref qn]) (wr := [(qn, .inr (0, [.ref qn_letters, .int j298])), (qn_letters, eC G 40 j299)]) C hw (c_J0_charAt i9 k315 hr_0 (by omega) (len31 i9 hr_0)) mwJ0_charAt_5068e kw925 [] [0, 1] rfl rfl rfl rfl (by decide) (vk_recv hw.2.2.2.2.2.1 hr_0 hw.2.2.2.1) rfl hl.1 rfl (Nat.le_of_ble_eq_true rfl) ⟨(Nat.le_of_ble_eq_true rfl), (Nat.le_of_ble_eq_true rfl)⟩ ⟨(Nat.le_of_ble_eq_true rfl), (Nat.le_of_ble_eq_true rfl)⟩ dX0_put_13 (fun r9 u9 H locs hp9 hw => ?_)
        obtain ⟨rfl, rfl⟩ := hp9
        have hw : Wd G s A [(qn, .inr (0, [.ref qn_letters, .int j298])), (qn_letters, eC G 40 j299)] H _ := hw
        refine (x_gen (fun v316 => ?_))
        refine x_callvV (As := [.int v316]) (rest := []) (wr := []) C hw (s_X0_putLetter qn v316 qn_letters j298 j299 (by omega)) mwX0_putLetter kw915 [0, 1] [] rfl rfl rfl rfl (by decide) 0 rfl rfl rfl rfl hl.1 rfl (Nat.le_of_ble_eq_true rfl) ⟨(Nat.le_of_ble_eq_true rfl), (Nat.le_of_ble_eq_true rfl)⟩ ⟨(Nat.le_of_ble_eq_true rfl), (Nat.le_of_ble_eq_true rfl)⟩ dX0_put_16 (fun  u9 H locs hp9 hw => ?_)
        obtain ⟨x317, x318, rfl, hf319⟩ := hp9
        have hw : Wd G s A [(qn, .inr (0, [.ref qn_letters, .int x317])), (qn_letters, eC G 40 x318)] H _ := hw
        obtain ⟨v320, ev320⟩ : ∃ z : Int32, j297 + 1 = z := ⟨_, rfl⟩
        have hv320 : v320.toInt = j297.toInt + 1 := by rw [← ev320]; exact i_add rfl rfl (by omega) (by omega)
        refine lv_iinc (v := v320) (lv' := [(2, .int v320), (0, .ref qn), (1, .ref (G.2.2.1 i9))]) C.1 C.2.1 dX0_put_19 hl (k := 0) rfl ev320 (by decide) rfl (fun ls hl => ?_)
        refine lv_goto (tgt := 2) C.1 C.2.1 dX0_put_22 (by decide) ?_
        exact ihJ300 v320 x317 x318 (by omega) (by omega) (by omega) _ _ _ hw (lv_sub hl [0, 1, 2] rfl)
  exact loopJ300 _ 0 qn_size qn_letters_c (Nat.lt_succ_self _) (by omega) (by decide) _ _ _ hw (lv_sub hl [0, 1, 2] rfl)
theorem dX0_putName_0 : decode cX0_putName 0 = .ok (.bipush 6, 2) := by decide +kernel
theorem dX0_putName_2 : decode cX0_putName 2 = .ok (.istore_n 3, 1) := by decide +kernel
theorem dX0_putName_3 : decode cX0_putName 3 = .ok (.iload_n 3, 1) := by decide +kernel
theorem dX0_putName_4 : decode cX0_putName 4 = .ok (.ifCond .lt 38, 3) := by decide +kernel
theorem dX0_putName_7 : decode cX0_putName 7 = .ok (.lload_n 1, 1) := by decide +kernel
theorem dX0_putName_8 : decode cX0_putName 8 = .ok (.iconst 5, 1) := by decide +kernel
theorem dX0_putName_9 : decode cX0_putName 9 = .ok (.iload_n 3, 1) := by decide +kernel
theorem dX0_putName_10 : decode cX0_putName 10 = .ok (.imul, 1) := by decide +kernel
theorem dX0_putName_11 : decode cX0_putName 11 = .ok (.lshr, 1) := by decide +kernel
theorem dX0_putName_12 : decode cX0_putName 12 = .ok (.ldc2_w 67, 3) := by decide +kernel
theorem dX0_putName_15 : decode cX0_putName 15 = .ok (.land, 1) := by decide +kernel
theorem dX0_putName_16 : decode cX0_putName 16 = .ok (.l2i, 1) := by decide +kernel
theorem dX0_putName_17 : decode cX0_putName 17 = .ok (.istore 4, 2) := by decide +kernel
theorem dX0_putName_19 : decode cX0_putName 19 = .ok (.iload 4, 2) := by decide +kernel
theorem dX0_putName_21 : decode cX0_putName 21 = .ok (.ifCond .eq 15, 3) := by decide +kernel
theorem dX0_putName_24 : decode cX0_putName 24 = .ok (.aload_n 0, 1) := by decide +kernel
theorem dX0_putName_25 : decode cX0_putName 25 = .ok (.bipush 97, 2) := by decide +kernel
theorem dX0_putName_27 : decode cX0_putName 27 = .ok (.iload 4, 2) := by decide +kernel
theorem dX0_putName_29 : decode cX0_putName 29 = .ok (.iadd, 1) := by decide +kernel
theorem dX0_putName_30 : decode cX0_putName 30 = .ok (.iconst 1, 1) := by decide +kernel
theorem dX0_putName_31 : decode cX0_putName 31 = .ok (.isub, 1) := by decide +kernel
theorem dX0_putName_32 : decode cX0_putName 32 = .ok (.i2c, 1) := by decide +kernel
theorem dX0_putName_33 : decode cX0_putName 33 = .ok (.invokevirtual 63, 3) := by decide +kernel
theorem dX0_putName_36 : decode cX0_putName 36 = .ok (.iinc 3 (-1), 3) := by decide +kernel
theorem dX0_putName_39 : decode cX0_putName 39 = .ok (.goto (-36), 3) := by decide +kernel
theorem dX0_putName_42 : decode cX0_putName 42 = .ok (.return_, 1) := by decide +kernel
set_option maxHeartbeats 4000000 in
set_option maxRecDepth 100000 in
theorem s_X0_putName {l : Launch} {G : Gc} (qn : Nat) (a1 : Int64) (qn_letters : Nat) (qn_size : Int32) (qn_letters_c : Nat → Int32) (hi_qn_size : 0 ≤ qn_size.toInt ∧ qn_size.toInt ≤ 40) : Cv l yX0_putName cX0_putName 5 1 0 0 G [.ref qn, .long a1] [(qn, .inr (0, [.ref qn_letters, .int qn_size])), (qn_letters, eC G 40 qn_letters_c)] (fun (u9 : va_W) => ∃ (x0_qn_size : Int32) (x1_qn_letters_c : Nat → Int32), u9 = [(qn, .inr (0, [.ref qn_letters, .int x0_qn_size])), (qn_letters, eC G 40 x1_qn_letters_c)] ∧ (0 ≤ x0_qn_size.toInt ∧ x0_qn_size.toInt ≤ 40)) := by
  refine Cv.ofQ (by decide) (Nat.le_of_ble_eq_true rfl) ?_
  intro p e s m below meth c ls A args Q hQ B hw hl
  have C : CallFix p m c cX0_putName 5 s args gw "LanternState$Bill" := B.1
  have hl : lv_has ls 5 [(0, .ref qn), (1, .long a1)] := hl
  refine lv_bipush (v := 6) C.1 C.2.1 dX0_putName_0 (by decide) ?_
  refine lv_istore_n (lv' := [(3, .int 6), (0, .ref qn), (1, .long a1)]) C.1 C.2.1 dX0_putName_2 rfl hl (by decide) rfl (fun ls hl => ?_)
  have loopJ78 : ∀ (n9 : Nat) (j75 : Int32) (j76 : Int32) (j77 : Nat → Int32), (j75.toInt + 2147483648).toNat < n9 → (0 ≤ j76.toInt ∧ j76.toInt ≤ 40) → ((-1) ≤ j75.toInt ∧ j75.toInt ≤ 6) → ∀ (H : Heap) (locs : List Loc) (ls : Array Slot), Wd G s A [(qn, .inr (0, [.ref qn_letters, .int j76])), (qn_letters, eC G 40 j77)] H locs → lv_has ls 5 [(3, .int j75), (0, .ref qn), (1, .long a1)] → W p l e (rmD 1 0 0) s m args below meth c H locs 0 0 Q (F0 m 3 ls []) := by
    intro n9
    induction n9 with
    | zero => intro j75 j76 j77 h9; exact absurd h9 (Nat.not_lt_zero _)
    | succ n9 ihJ78 =>
      intro j75 j76 j77 h9J78 hJ78_0 hJ78_1 H locs ls hw hl
      have hbj75 := i_bd j75
      refine lv_iload_n C.1 C.2.1 dX0_putName_3 rfl (lv_at hl 0 rfl) ?_
      refine lv_if_lt (tgt := 42) C.1 C.2.1 dX0_putName_4 (by decide) (fun c99 => ?_) (fun c99 => ?_)
      · skip
        have c99 : j75.toInt < 0 := i_ltT (X := j75.toInt) (Y := 0) rfl rfl c99
        exact x_retvQ hQ B hw ⟨j76, j77, rfl, (by omega)⟩ (Nat.le_of_ble_eq_true rfl) (Nat.le_of_ble_eq_true rfl) dX0_putName_42
      · skip
        have c99 : 0 ≤ j75.toInt := i_ltF (X := j75.toInt) (Y := 0) rfl rfl c99
        refine lv_lload_n C.1 C.2.1 dX0_putName_7 rfl (lv_at hl 2 rfl) ?_
        refine lv_iconst (v := 5) C.1 C.2.1 dX0_putName_8 (by decide) ?_
        refine lv_iload_n C.1 C.2.1 dX0_putName_9 rfl (lv_at hl 0 rfl) ?_
        refine lv_imul C.1 C.2.1 dX0_putName_10 (x_genP (fun z : Int32 => z.toInt = 5 * j75.toInt) (i_mul (X := 5) (Y := j75.toInt) rfl rfl (by omega) (by omega)) (fun v100 hv100 => ?_))
        refine lv_lshr C.1 C.2.1 dX0_putName_11 rfl (x_genl (fun v101 => ?_))
        refine lv_ldc2 (v := 31) C.1 C.2.1 C.2.2.2.1 (C.2.2.2.2 _ kw914) dX0_putName_12 ?_
        refine lv_land C.1 C.2.1 dX0_putName_15 (x_genl (fun v102 => ?_))
        refine lv_l2i (v := v102.toInt32) C.1 C.2.1 dX0_putName_16 rfl (x_gen (fun v103 => ?_))
        refine lv_istore (lv' := [(4, .int v103), (3, .int j75), (0, .ref qn), (1, .long a1)]) C.1 C.2.1 dX0_putName_17 hl (by decide) rfl (fun ls hl => ?_)
        refine lv_iload C.1 C.2.1 dX0_putName_19 (lv_at hl 0 rfl) ?_
        have J113 : ∀ (j111 : Int32) (j112 : Nat → Int32), (0 ≤ j111.toInt ∧ j111.toInt ≤ 40) → ∀ (H : Heap) (locs : List Loc) (ls : Array Slot), Wd G s A [(qn, .inr (0, [.ref qn_letters, .int j111])), (qn_letters, eC G 40 j112)] H locs → lv_has ls 5 [(3, .int j75), (0, .ref qn), (1, .long a1)] → W p l e (rmD 1 0 0) s m args below meth c H locs 0 0 Q (F0 m 36 ls []) := by
          intro j111 j112 hJ113_0 H locs ls hw hl
          obtain ⟨v115, ev115⟩ : ∃ z : Int32, j75 + (-1) = z := ⟨_, rfl⟩
          have hv115 : v115.toInt = j75.toInt + (-1) := by rw [← ev115]; exact i_add rfl rfl (by omega) (by omega)
          refine lv_iinc (v := v115) (lv' := [(3, .int v115), (0, .ref qn), (1, .long a1)]) C.1 C.2.1 dX0_putName_36 hl (k := 0) rfl ev115 (by decide) rfl (fun ls hl => ?_)
          refine lv_goto (tgt := 3) C.1 C.2.1 dX0_putName_39 (by decide) ?_
          exact ihJ78 v115 j111 j112 (by omega) (by omega) (by omega) _ _ _ hw (lv_sub hl [0, 1, 2] rfl)
        refine lv_if_eq (tgt := 36) C.1 C.2.1 dX0_putName_21 (by decide) (fun c104 => ?_) (fun c104 => ?_)
        · skip
          have c104 : v103.toInt = 0 := i_eqT (X := v103.toInt) (Y := 0) rfl rfl c104
          have bc104_v103 := i_bd v103
          exact J113 j76 j77  (by omega) _ _ _ hw (lv_sub hl [1, 2, 3] rfl)
        · skip
          have c104 : v103.toInt ≠ 0 := i_eqF (X := v103.toInt) (Y := 0) rfl rfl c104
          have bc104_v103 := i_bd v103
          refine lv_aload_n C.1 C.2.1 dX0_putName_24 rfl (lv_at hl 2 rfl) ?_
          refine lv_bipush (v := 97) C.1 C.2.1 dX0_putName_25 (by decide) ?_
          refine lv_iload C.1 C.2.1 dX0_putName_27 (lv_at hl 0 rfl) ?_
          refine lv_iadd C.1 C.2.1 dX0_putName_29 (x_gen (fun v116 => ?_))
          refine lv_iconst (v := 1) C.1 C.2.1 dX0_putName_30 (by decide) ?_
          refine lv_isub C.1 C.2.1 dX0_putName_31 (x_gen (fun v117 => ?_))
          refine lv_i2c (v := ((v117.toUInt32 % 65536).toInt32)) C.1 C.2.1 dX0_putName_32 rfl (x_gen (fun v118 => ?_))
          refine x_callvV (As := [.int v118]) (rest := []) (wr := []) C hw (s_X0_putLetter qn v118 qn_letters j76 j77 (by omega)) mwX0_putLetter kw915 [0, 1] [] rfl rfl rfl rfl (by decide) 0 rfl rfl rfl rfl hl.1 rfl (Nat.le_of_ble_eq_true rfl) ⟨(Nat.le_of_ble_eq_true rfl), (Nat.le_of_ble_eq_true rfl)⟩ ⟨(Nat.le_of_ble_eq_true rfl), (Nat.le_of_ble_eq_true rfl)⟩ dX0_putName_33 (fun  u9 H locs hp9 hw => ?_)
          obtain ⟨x119, x120, rfl, hf121⟩ := hp9
          have hw : Wd G s A [(qn, .inr (0, [.ref qn_letters, .int x119])), (qn_letters, eC G 40 x120)] H _ := hw
          exact J113 x119 x120  (by omega) _ _ _ hw (lv_sub hl [1, 2, 3] rfl)
  exact loopJ78 _ 6 qn_size qn_letters_c (Nat.lt_succ_self _) (by omega) (by decide) _ _ _ hw (lv_sub hl [0, 1, 2] rfl)
theorem dX0_write_0 : decode cX0_write 0 = .ok (.aload_n 0, 1) := by decide +kernel
theorem dX0_write_1 : decode cX0_write 1 = .ok (.iconst 0, 1) := by decide +kernel
theorem dX0_write_2 : decode cX0_write 2 = .ok (.putfield 15, 3) := by decide +kernel
theorem dX0_write_5 : decode cX0_write 5 = .ok (.aload_n 0, 1) := by decide +kernel
theorem dX0_write_6 : decode cX0_write 6 = .ok (.aload_n 1, 1) := by decide +kernel
theorem dX0_write_7 : decode cX0_write 7 = .ok (.getfield 19, 3) := by decide +kernel
theorem dX0_write_10 : decode cX0_write 10 = .ok (.iload_n 3, 1) := by decide +kernel
theorem dX0_write_11 : decode cX0_write 11 = .ok (.laload, 1) := by decide +kernel
theorem dX0_write_12 : decode cX0_write 12 = .ok (.invokevirtual 25, 3) := by decide +kernel
theorem mwX0_putName : MwV yX0_putName cX0_putName 5 none 1 := ⟨⟨kw913, kw13, by decide +kernel⟩, kw912, kS23⟩
theorem dX0_write_15 : decode cX0_write 15 = .ok (.aload_n 2, 1) := by decide +kernel
theorem dX0_write_16 : decode cX0_write 16 = .ok (.getfield 29, 3) := by decide +kernel
theorem dX0_write_19 : decode cX0_write 19 = .ok (.iload_n 3, 1) := by decide +kernel
theorem dX0_write_20 : decode cX0_write 20 = .ok (.ishr, 1) := by decide +kernel
theorem dX0_write_21 : decode cX0_write 21 = .ok (.iconst 1, 1) := by decide +kernel
theorem dX0_write_22 : decode cX0_write 22 = .ok (.iand, 1) := by decide +kernel
theorem dX0_write_23 : decode cX0_write 23 = .ok (.ifCond .eq 12, 3) := by decide +kernel
theorem dX0_write_35 : decode cX0_write 35 = .ok (.aload_n 2, 1) := by decide +kernel
theorem dX0_write_36 : decode cX0_write 36 = .ok (.getfield 40, 3) := by decide +kernel
theorem dX0_write_39 : decode cX0_write 39 = .ok (.iload_n 3, 1) := by decide +kernel
theorem dX0_write_40 : decode cX0_write 40 = .ok (.ishr, 1) := by decide +kernel
theorem dX0_write_41 : decode cX0_write 41 = .ok (.iconst 1, 1) := by decide +kernel
theorem dX0_write_42 : decode cX0_write 42 = .ok (.iand, 1) := by decide +kernel
theorem dX0_write_43 : decode cX0_write 43 = .ok (.ifCond .eq 12, 3) := by decide +kernel
theorem dX0_write_55 : decode cX0_write 55 = .ok (.aload_n 0, 1) := by decide +kernel
theorem dX0_write_56 : decode cX0_write 56 = .ok (.ldc 45, 2) := by decide +kernel
theorem dX0_write_58 : decode cX0_write 58 = .ok (.invokevirtual 36, 3) := by decide +kernel
theorem mwX0_put : MwV yX0_put cX0_put 3 none 1 := ⟨⟨kw923, kw13, by decide +kernel⟩, kw922, kS25⟩
theorem dX0_write_61 : decode cX0_write 61 = .ok (.aload_n 2, 1) := by decide +kernel
theorem dX0_write_62 : decode cX0_write 62 = .ok (.aload_n 1, 1) := by decide +kernel
theorem dX0_write_63 : decode cX0_write 63 = .ok (.iload_n 3, 1) := by decide +kernel
theorem dX0_write_64 : decode cX0_write 64 = .ok (.invokevirtual 47, 3) := by decide +kernel
theorem dX0_write_67 : decode cX0_write 67 = .ok (.istore 4, 2) := by decide +kernel
theorem dX0_write_69 : decode cX0_write 69 = .ok (.iload 4, 2) := by decide +kernel
theorem dX0_write_71 : decode cX0_write 71 = .ok (.iconst (-1), 1) := by decide +kernel
theorem dX0_write_72 : decode cX0_write 72 = .ok (.if_icmp .eq 20, 3) := by decide +kernel
theorem dX0_write_92 : decode cX0_write 92 = .ok (.return_, 1) := by decide +kernel
theorem dX0_write_75 : decode cX0_write 75 = .ok (.aload_n 0, 1) := by decide +kernel
theorem dX0_write_76 : decode cX0_write 76 = .ok (.ldc 51, 2) := by decide +kernel
theorem dX0_write_78 : decode cX0_write 78 = .ok (.invokevirtual 36, 3) := by decide +kernel
theorem dX0_write_81 : decode cX0_write 81 = .ok (.aload_n 0, 1) := by decide +kernel
theorem dX0_write_82 : decode cX0_write 82 = .ok (.aload_n 1, 1) := by decide +kernel
theorem dX0_write_83 : decode cX0_write 83 = .ok (.getfield 19, 3) := by decide +kernel
theorem dX0_write_86 : decode cX0_write 86 = .ok (.iload 4, 2) := by decide +kernel
theorem dX0_write_88 : decode cX0_write 88 = .ok (.laload, 1) := by decide +kernel
theorem dX0_write_89 : decode cX0_write 89 = .ok (.invokevirtual 25, 3) := by decide +kernel
theorem dX0_write_46 : decode cX0_write 46 = .ok (.aload_n 0, 1) := by decide +kernel
theorem dX0_write_47 : decode cX0_write 47 = .ok (.ldc 43, 2) := by decide +kernel
theorem dX0_write_49 : decode cX0_write 49 = .ok (.invokevirtual 36, 3) := by decide +kernel
theorem dX0_write_52 : decode cX0_write 52 = .ok (.goto 40, 3) := by decide +kernel
theorem dX0_write_26 : decode cX0_write 26 = .ok (.aload_n 0, 1) := by decide +kernel
theorem dX0_write_27 : decode cX0_write 27 = .ok (.ldc 34, 2) := by decide +kernel
theorem dX0_write_29 : decode cX0_write 29 = .ok (.invokevirtual 36, 3) := by decide +kernel
theorem dX0_write_32 : decode cX0_write 32 = .ok (.goto 60, 3) := by decide +kernel
set_option maxHeartbeats 4000000 in
set_option maxRecDepth 100000 in
theorem s_X0_write {l : Launch} {G : Gc} (qn : Nat) (qs : Nat) (qa : Nat) (a1 : Int32) (qn_letters : Nat) (qn_size : Int32) (qn_letters_c : Nat → Int32) (qs_slides : Int32) (qs_hearers : Int32) (qs_nears : Int32) (qs_lines : Int32) (qs_pass : Int32) (qs_spread : Int32) (qs_lamp : Int32) (qs_behind : Int32) (qs_settingsTold : Int32) (qs_slideNames : Nat) (qs_pictures : Nat) (qs_heats : Nat) (qs_after : Nat) (qs_hearerNames : Nat) (qs_needs : Nat) (qs_likes : Nat) (qs_hates : Nat) (qs_near : Nat) (qs_slideNames_c : Nat → Int64) (qs_after_c : Nat → Int32) (qa_hour : Int32) (qa_heat : Int32) (qa_black : Int32) (qa_so : Int32) (qa_cracked : Int32) (qa_behind : Int32) (qa_allSighs : Int32) (qa_seed : Int32) (qa_pictures : Nat) (qa_shown : Nat) (qa_sighed : Nat) (hi_a1 : 0 ≤ a1.toInt ∧ a1.toInt ≤ 5) (hi_qn_size : 0 ≤ qn_size.toInt ∧ qn_size.toInt ≤ 40) (hf_qs_after_c : inA 6 (-1) 5 qs_after_c) : Cv l yX0_write cX0_write 5 5 0 0 G [.ref qn, .ref qs, .ref qa, .int a1] [(qn, .inr (0, [.ref qn_letters, .int qn_size])), (qn_letters, eC G 40 qn_letters_c), (qs, .inr (4, [.int qs_slides, .int qs_hearers, .int qs_nears, .int qs_lines, .int qs_pass, .int qs_spread, .int qs_lamp, .int qs_behind, .int qs_settingsTold, .ref qs_slideNames, .ref qs_pictures, .ref qs_heats, .ref qs_after, .ref qs_hearerNames, .ref qs_needs, .ref qs_likes, .ref qs_hates, .ref qs_near])), (qs_slideNames, eJ G 6 qs_slideNames_c), (qs_after, eI G 6 qs_after_c), (qa, .inr (7, [.int qa_hour, .int qa_heat, .int qa_black, .int qa_so, .int qa_cracked, .int qa_behind, .int qa_allSighs, .int qa_seed, .ref qa_pictures, .ref qa_shown, .ref qa_sighed]))] (fun (u9 : va_W) => ∃ (x0_qn_size : Int32) (x1_qn_letters_c : Nat → Int32), u9 = [(qn, .inr (0, [.ref qn_letters, .int x0_qn_size])), (qn_letters, eC G 40 x1_qn_letters_c), (qs, .inr (4, [.int qs_slides, .int qs_hearers, .int qs_nears, .int qs_lines, .int qs_pass, .int qs_spread, .int qs_lamp, .int qs_behind, .int qs_settingsTold, .ref qs_slideNames, .ref qs_pictures, .ref qs_heats, .ref qs_after, .ref qs_hearerNames, .ref qs_needs, .ref qs_likes, .ref qs_hates, .ref qs_near])), (qs_slideNames, eJ G 6 qs_slideNames_c), (qs_after, eI G 6 qs_after_c), (qa, .inr (7, [.int qa_hour, .int qa_heat, .int qa_black, .int qa_so, .int qa_cracked, .int qa_behind, .int qa_allSighs, .int qa_seed, .ref qa_pictures, .ref qa_shown, .ref qa_sighed]))] ∧ (0 ≤ x0_qn_size.toInt ∧ x0_qn_size.toInt ≤ 40)) := by
  refine Cv.ofQ (by decide) (Nat.le_of_ble_eq_true rfl) ?_
  intro p e s m below meth c ls A args Q hQ B hw hl
  have C : CallFix p m c cX0_write 5 s args gw "LanternState$Bill" := B.1
  have hl : lv_has ls 5 [(0, .ref qn), (1, .ref qs), (2, .ref qa), (3, .int a1)] := hl
  refine lv_aload_n C.1 C.2.1 dX0_write_0 rfl (lv_at hl 0 rfl) ?_
  refine lv_iconst (v := 0) C.1 C.2.1 dX0_write_1 (by decide) ?_
  refine x_put (w' := [(qn, .inr (0, [.ref qn_letters, .int 0])), (qn_letters, eC G 40 qn_letters_c), (qs, .inr (4, [.int qs_slides, .int qs_hearers, .int qs_nears, .int qs_lines, .int qs_pass, .int qs_spread, .int qs_lamp, .int qs_behind, .int qs_settingsTold, .ref qs_slideNames, .ref qs_pictures, .ref qs_heats, .ref qs_after, .ref qs_hearerNames, .ref qs_needs, .ref qs_likes, .ref qs_hates, .ref qs_near])), (qs_slideNames, eJ G 6 qs_slideNames_c), (qs_after, eI G 6 qs_after_c), (qa, .inr (7, [.int qa_hour, .int qa_heat, .int qa_black, .int qa_so, .int qa_cracked, .int qa_behind, .int qa_allSighs, .int qa_seed, .ref qa_pictures, .ref qa_shown, .ref qa_sighed]))]) C hw iwX0 tyX0_ok nmX0 0 rfl 0 rfl 1 (by decide) kw409 rfl rfl rfl (Nat.le_of_ble_eq_true rfl) rfl dX0_write_2 (fun H locs hw => ?_)
  refine lv_aload_n C.1 C.2.1 dX0_write_5 rfl (lv_at hl 0 rfl) ?_
  refine lv_aload_n C.1 C.2.1 dX0_write_6 rfl (lv_at hl 1 rfl) ?_
  refine x_get C hw iwX5 4 rfl 2 rfl 9 (by decide) kw172 rfl dX0_write_7 ?_
  refine lv_iload_n C.1 C.2.1 dX0_write_10 rfl (lv_at hl 3 rfl) ?_
  refine x_lald (v := (qs_slideNames_c a1.toNatClampNeg)) C hw 3 rfl (i_in (by omega) (by omega)) rfl dX0_write_11 (x_genl (fun v1 => ?_))
  refine x_callvV (As := [.long v1]) (rest := []) (wr := [(qs, .inr (4, [.int qs_slides, .int qs_hearers, .int qs_nears, .int qs_lines, .int qs_pass, .int qs_spread, .int qs_lamp, .int qs_behind, .int qs_settingsTold, .ref qs_slideNames, .ref qs_pictures, .ref qs_heats, .ref qs_after, .ref qs_hearerNames, .ref qs_needs, .ref qs_likes, .ref qs_hates, .ref qs_near])), (qs_slideNames, eJ G 6 qs_slideNames_c), (qs_after, eI G 6 qs_after_c), (qa, .inr (7, [.int qa_hour, .int qa_heat, .int qa_black, .int qa_so, .int qa_cracked, .int qa_behind, .int qa_allSighs, .int qa_seed, .ref qa_pictures, .ref qa_shown, .ref qa_sighed]))]) C hw (s_X0_putName qn v1 qn_letters 0 qn_letters_c (by decide)) mwX0_putName kw910 [0, 1] [2, 3, 4, 5] rfl rfl rfl rfl (by decide) 0 rfl rfl rfl rfl hl.1 rfl (Nat.le_of_ble_eq_true rfl) ⟨(Nat.le_of_ble_eq_true rfl), (Nat.le_of_ble_eq_true rfl)⟩ ⟨(Nat.le_of_ble_eq_true rfl), (Nat.le_of_ble_eq_true rfl)⟩ dX0_write_12 (fun  u9 H locs hp9 hw => ?_)
  obtain ⟨x2, x3, rfl, hf4⟩ := hp9
  have hw : Wd G s A [(qs, .inr (4, [.int qs_slides, .int qs_hearers, .int qs_nears, .int qs_lines, .int qs_pass, .int qs_spread, .int qs_lamp, .int qs_behind, .int qs_settingsTold, .ref qs_slideNames, .ref qs_pictures, .ref qs_heats, .ref qs_after, .ref qs_hearerNames, .ref qs_needs, .ref qs_likes, .ref qs_hates, .ref qs_near])), (qs_slideNames, eJ G 6 qs_slideNames_c), (qs_after, eI G 6 qs_after_c), (qa, .inr (7, [.int qa_hour, .int qa_heat, .int qa_black, .int qa_so, .int qa_cracked, .int qa_behind, .int qa_allSighs, .int qa_seed, .ref qa_pictures, .ref qa_shown, .ref qa_sighed])), (qn, .inr (0, [.ref qn_letters, .int x2])), (qn_letters, eC G 40 x3)] H _ := hw
  refine lv_aload_n C.1 C.2.1 dX0_write_15 rfl (lv_at hl 2 rfl) ?_
  refine x_get C hw iwX8 7 rfl 3 rfl 3 (by decide) kw246 rfl dX0_write_16 ?_
  refine lv_iload_n C.1 C.2.1 dX0_write_19 rfl (lv_at hl 3 rfl) ?_
  refine lv_ishr C.1 C.2.1 dX0_write_20 (x_gen (fun v5 => ?_))
  refine lv_iconst (v := 1) C.1 C.2.1 dX0_write_21 (by decide) ?_
  refine lv_iand C.1 C.2.1 dX0_write_22 (x_genP (fun z : Int32 => 0 ≤ z.toInt ∧ z.toInt ≤ 1) (i_andR 1 rfl (by decide) rfl) (fun v6 hv6 => ?_))
  refine lv_if_eq (tgt := 35) C.1 C.2.1 dX0_write_23 (by decide) (fun c7 => ?_) (fun c7 => ?_)
  · skip
    have c7 : v6.toInt = 0 := i_eqT (X := v6.toInt) (Y := 0) rfl rfl c7
    refine lv_aload_n C.1 C.2.1 dX0_write_35 rfl (lv_at hl 2 rfl) ?_
    refine x_get C hw iwX8 7 rfl 3 rfl 4 (by decide) kw253 rfl dX0_write_36 ?_
    refine lv_iload_n C.1 C.2.1 dX0_write_39 rfl (lv_at hl 3 rfl) ?_
    refine lv_ishr C.1 C.2.1 dX0_write_40 (x_gen (fun v8 => ?_))
    refine lv_iconst (v := 1) C.1 C.2.1 dX0_write_41 (by decide) ?_
    refine lv_iand C.1 C.2.1 dX0_write_42 (x_genP (fun z : Int32 => 0 ≤ z.toInt ∧ z.toInt ≤ 1) (i_andR 1 rfl (by decide) rfl) (fun v9 hv9 => ?_))
    refine lv_if_eq (tgt := 55) C.1 C.2.1 dX0_write_43 (by decide) (fun c10 => ?_) (fun c10 => ?_)
    · skip
      have c10 : v9.toInt = 0 := i_eqT (X := v9.toInt) (Y := 0) rfl rfl c10
      refine lv_aload_n C.1 C.2.1 dX0_write_55 rfl (lv_at hl 0 rfl) ?_
      refine va_ldcS C.1 C.2.1 C.2.2.2.1 (strk3 hw.1) dX0_write_56 ?_
      refine x_callvV (As := [.ref (G.2.2.1 3)]) (rest := []) (wr := [(qs, .inr (4, [.int qs_slides, .int qs_hearers, .int qs_nears, .int qs_lines, .int qs_pass, .int qs_spread, .int qs_lamp, .int qs_behind, .int qs_settingsTold, .ref qs_slideNames, .ref qs_pictures, .ref qs_heats, .ref qs_after, .ref qs_hearerNames, .ref qs_needs, .ref qs_likes, .ref qs_hates, .ref qs_near])), (qs_slideNames, eJ G 6 qs_slideNames_c), (qs_after, eI G 6 qs_after_c), (qa, .inr (7, [.int qa_hour, .int qa_heat, .int qa_black, .int qa_so, .int qa_cracked, .int qa_behind, .int qa_allSighs, .int qa_seed, .ref qa_pictures, .ref qa_shown, .ref qa_sighed]))]) C hw (s_X0_put qn qn_letters x2 x3 3 (by omega) (by omega)) mwX0_put kw920 [4, 5] [0, 1, 2, 3] rfl rfl rfl rfl (by decide) 0 rfl rfl rfl rfl hl.1 rfl (Nat.le_of_ble_eq_true rfl) ⟨(Nat.le_of_ble_eq_true rfl), (Nat.le_of_ble_eq_true rfl)⟩ ⟨(Nat.le_of_ble_eq_true rfl), (Nat.le_of_ble_eq_true rfl)⟩ dX0_write_58 (fun  u9 H locs hp9 hw => ?_)
      obtain ⟨x11, x12, rfl, hf13⟩ := hp9
      have hw : Wd G s A [(qs, .inr (4, [.int qs_slides, .int qs_hearers, .int qs_nears, .int qs_lines, .int qs_pass, .int qs_spread, .int qs_lamp, .int qs_behind, .int qs_settingsTold, .ref qs_slideNames, .ref qs_pictures, .ref qs_heats, .ref qs_after, .ref qs_hearerNames, .ref qs_needs, .ref qs_likes, .ref qs_hates, .ref qs_near])), (qs_slideNames, eJ G 6 qs_slideNames_c), (qs_after, eI G 6 qs_after_c), (qa, .inr (7, [.int qa_hour, .int qa_heat, .int qa_black, .int qa_so, .int qa_cracked, .int qa_behind, .int qa_allSighs, .int qa_seed, .ref qa_pictures, .ref qa_shown, .ref qa_sighed])), (qn, .inr (0, [.ref qn_letters, .int x11])), (qn_letters, eC G 40 x12)] H _ := hw
      refine lv_aload_n C.1 C.2.1 dX0_write_61 rfl (lv_at hl 2 rfl) ?_
      refine lv_aload_n C.1 C.2.1 dX0_write_62 rfl (lv_at hl 1 rfl) ?_
      refine lv_iload_n C.1 C.2.1 dX0_write_63 rfl (lv_at hl 3 rfl) ?_
      refine x_calliV (As := [.ref qs, .int a1]) (rest := []) (wr := [(qs_slideNames, eJ G 6 qs_slideNames_c), (qn, .inr (0, [.ref qn_letters, .int x11])), (qn_letters, eC G 40 x12)]) C hw (s_X8_waitsFor qa qs a1 qa_hour qa_heat qa_black qa_so qa_cracked qa_behind qa_allSighs qa_seed qa_pictures qa_shown qa_sighed qs_slides qs_hearers qs_nears qs_lines qs_pass qs_spread qs_lamp qs_behind qs_settingsTold qs_slideNames qs_pictures qs_heats qs_after qs_hearerNames qs_needs qs_likes qs_hates qs_near qs_after_c (by omega) hf_qs_after_c) mwX8_waitsFor kw928 [3, 0, 2] [1, 4, 5] rfl rfl rfl rfl (by decide) 0 rfl rfl rfl rfl hl.1 rfl (Nat.le_of_ble_eq_true rfl) ⟨(Nat.le_of_ble_eq_true rfl), (Nat.le_of_ble_eq_true rfl)⟩ ⟨(Nat.le_of_ble_eq_true rfl), (Nat.le_of_ble_eq_true rfl)⟩ dX0_write_64 (fun r14 u9 H locs hp9 hw => ?_)
      obtain ⟨x15, rfl, rfl, hf16⟩ := hp9
      have hw : Wd G s A [(qs_slideNames, eJ G 6 qs_slideNames_c), (qn, .inr (0, [.ref qn_letters, .int x11])), (qn_letters, eC G 40 x12), (qa, .inr (7, [.int qa_hour, .int qa_heat, .int qa_black, .int qa_so, .int qa_cracked, .int qa_behind, .int qa_allSighs, .int qa_seed, .ref qa_pictures, .ref qa_shown, .ref qa_sighed])), (qs, .inr (4, [.int qs_slides, .int qs_hearers, .int qs_nears, .int qs_lines, .int qs_pass, .int qs_spread, .int qs_lamp, .int qs_behind, .int qs_settingsTold, .ref qs_slideNames, .ref qs_pictures, .ref qs_heats, .ref qs_after, .ref qs_hearerNames, .ref qs_needs, .ref qs_likes, .ref qs_hates, .ref qs_near])), (qs_after, eI G 6 qs_after_c)] H _ := hw
      refine lv_istore (lv' := [(4, .int r14), (0, .ref qn), (1, .ref qs), (2, .ref qa), (3, .int a1)]) C.1 C.2.1 dX0_write_67 hl (by decide) rfl (fun ls hl => ?_)
      refine lv_iload C.1 C.2.1 dX0_write_69 (lv_at hl 0 rfl) ?_
      refine lv_iconst (v := (-1)) C.1 C.2.1 dX0_write_71 (by decide) ?_
      refine lv_icmp_eq (tgt := 92) C.1 C.2.1 dX0_write_72 (by decide) (fun c17 => ?_) (fun c17 => ?_)
      · skip
        have c17 : r14.toInt = (-1) := i_eqT (X := r14.toInt) (Y := (-1)) rfl rfl c17
        have hw := hw.sub (w' := [(qn, .inr (0, [.ref qn_letters, .int x11])), (qn_letters, eC G 40 x12), (qs, .inr (4, [.int qs_slides, .int qs_hearers, .int qs_nears, .int qs_lines, .int qs_pass, .int qs_spread, .int qs_lamp, .int qs_behind, .int qs_settingsTold, .ref qs_slideNames, .ref qs_pictures, .ref qs_heats, .ref qs_after, .ref qs_hearerNames, .ref qs_needs, .ref qs_likes, .ref qs_hates, .ref qs_near])), (qs_slideNames, eJ G 6 qs_slideNames_c), (qs_after, eI G 6 qs_after_c), (qa, .inr (7, [.int qa_hour, .int qa_heat, .int qa_black, .int qa_so, .int qa_cracked, .int qa_behind, .int qa_allSighs, .int qa_seed, .ref qa_pictures, .ref qa_shown, .ref qa_sighed]))]) [1, 2, 4, 0, 5, 3] rfl rfl
        exact x_retvQ hQ B hw ⟨x11, x12, rfl, (by omega)⟩ (Nat.le_of_ble_eq_true rfl) (Nat.le_of_ble_eq_true rfl) dX0_write_92
      · skip
        have c17 : r14.toInt ≠ (-1) := i_eqF (X := r14.toInt) (Y := (-1)) rfl rfl c17
        refine lv_aload_n C.1 C.2.1 dX0_write_75 rfl (lv_at hl 1 rfl) ?_
        refine va_ldcS C.1 C.2.1 C.2.2.2.1 (strk4 hw.1) dX0_write_76 ?_
        refine x_callvV (As := [.ref (G.2.2.1 4)]) (rest := []) (wr := [(qs_slideNames, eJ G 6 qs_slideNames_c), (qa, .inr (7, [.int qa_hour, .int qa_heat, .int qa_black, .int qa_so, .int qa_cracked, .int qa_behind, .int qa_allSighs, .int qa_seed, .ref qa_pictures, .ref qa_shown, .ref qa_sighed])), (qs, .inr (4, [.int qs_slides, .int qs_hearers, .int qs_nears, .int qs_lines, .int qs_pass, .int qs_spread, .int qs_lamp, .int qs_behind, .int qs_settingsTold, .ref qs_slideNames, .ref qs_pictures, .ref qs_heats, .ref qs_after, .ref qs_hearerNames, .ref qs_needs, .ref qs_likes, .ref qs_hates, .ref qs_near])), (qs_after, eI G 6 qs_after_c)]) C hw (s_X0_put qn qn_letters x11 x12 4 (by omega) (by omega)) mwX0_put kw920 [1, 2] [0, 3, 4, 5] rfl rfl rfl rfl (by decide) 0 rfl rfl rfl rfl hl.1 rfl (Nat.le_of_ble_eq_true rfl) ⟨(Nat.le_of_ble_eq_true rfl), (Nat.le_of_ble_eq_true rfl)⟩ ⟨(Nat.le_of_ble_eq_true rfl), (Nat.le_of_ble_eq_true rfl)⟩ dX0_write_78 (fun  u9 H locs hp9 hw => ?_)
        obtain ⟨x18, x19, rfl, hf20⟩ := hp9
        have hw : Wd G s A [(qs_slideNames, eJ G 6 qs_slideNames_c), (qa, .inr (7, [.int qa_hour, .int qa_heat, .int qa_black, .int qa_so, .int qa_cracked, .int qa_behind, .int qa_allSighs, .int qa_seed, .ref qa_pictures, .ref qa_shown, .ref qa_sighed])), (qs, .inr (4, [.int qs_slides, .int qs_hearers, .int qs_nears, .int qs_lines, .int qs_pass, .int qs_spread, .int qs_lamp, .int qs_behind, .int qs_settingsTold, .ref qs_slideNames, .ref qs_pictures, .ref qs_heats, .ref qs_after, .ref qs_hearerNames, .ref qs_needs, .ref qs_likes, .ref qs_hates, .ref qs_near])), (qs_after, eI G 6 qs_after_c), (qn, .inr (0, [.ref qn_letters, .int x18])), (qn_letters, eC G 40 x19)] H _ := hw
        refine lv_aload_n C.1 C.2.1 dX0_write_81 rfl (lv_at hl 1 rfl) ?_
        refine lv_aload_n C.1 C.2.1 dX0_write_82 rfl (lv_at hl 2 rfl) ?_
        refine x_get C hw iwX5 4 rfl 2 rfl 9 (by decide) kw172 rfl dX0_write_83 ?_
        refine lv_iload C.1 C.2.1 dX0_write_86 (lv_at hl 0 rfl) ?_
        refine x_lald (v := (qs_slideNames_c r14.toNatClampNeg)) C hw 0 rfl (i_in (by omega) (by omega)) rfl dX0_write_88 (x_genl (fun v21 => ?_))
        refine x_callvV (As := [.long v21]) (rest := []) (wr := [(qs_slideNames, eJ G 6 qs_slideNames_c), (qa, .inr (7, [.int qa_hour, .int qa_heat, .int qa_black, .int qa_so, .int qa_cracked, .int qa_behind, .int qa_allSighs, .int qa_seed, .ref qa_pictures, .ref qa_shown, .ref qa_sighed])), (qs, .inr (4, [.int qs_slides, .int qs_hearers, .int qs_nears, .int qs_lines, .int qs_pass, .int qs_spread, .int qs_lamp, .int qs_behind, .int qs_settingsTold, .ref qs_slideNames, .ref qs_pictures, .ref qs_heats, .ref qs_after, .ref qs_hearerNames, .ref qs_needs, .ref qs_likes, .ref qs_hates, .ref qs_near])), (qs_after, eI G 6 qs_after_c)]) C hw (s_X0_putName qn v21 qn_letters x18 x19 (by omega)) mwX0_putName kw910 [4, 5] [0, 1, 2, 3] rfl rfl rfl rfl (by decide) 0 rfl rfl rfl rfl hl.1 rfl (Nat.le_of_ble_eq_true rfl) ⟨(Nat.le_of_ble_eq_true rfl), (Nat.le_of_ble_eq_true rfl)⟩ ⟨(Nat.le_of_ble_eq_true rfl), (Nat.le_of_ble_eq_true rfl)⟩ dX0_write_89 (fun  u9 H locs hp9 hw => ?_)
        obtain ⟨x22, x23, rfl, hf24⟩ := hp9
        have hw : Wd G s A [(qs_slideNames, eJ G 6 qs_slideNames_c), (qa, .inr (7, [.int qa_hour, .int qa_heat, .int qa_black, .int qa_so, .int qa_cracked, .int qa_behind, .int qa_allSighs, .int qa_seed, .ref qa_pictures, .ref qa_shown, .ref qa_sighed])), (qs, .inr (4, [.int qs_slides, .int qs_hearers, .int qs_nears, .int qs_lines, .int qs_pass, .int qs_spread, .int qs_lamp, .int qs_behind, .int qs_settingsTold, .ref qs_slideNames, .ref qs_pictures, .ref qs_heats, .ref qs_after, .ref qs_hearerNames, .ref qs_needs, .ref qs_likes, .ref qs_hates, .ref qs_near])), (qs_after, eI G 6 qs_after_c), (qn, .inr (0, [.ref qn_letters, .int x22])), (qn_letters, eC G 40 x23)] H _ := hw
        have hw := hw.sub (w' := [(qn, .inr (0, [.ref qn_letters, .int x22])), (qn_letters, eC G 40 x23), (qs, .inr (4, [.int qs_slides, .int qs_hearers, .int qs_nears, .int qs_lines, .int qs_pass, .int qs_spread, .int qs_lamp, .int qs_behind, .int qs_settingsTold, .ref qs_slideNames, .ref qs_pictures, .ref qs_heats, .ref qs_after, .ref qs_hearerNames, .ref qs_needs, .ref qs_likes, .ref qs_hates, .ref qs_near])), (qs_slideNames, eJ G 6 qs_slideNames_c), (qs_after, eI G 6 qs_after_c), (qa, .inr (7, [.int qa_hour, .int qa_heat, .int qa_black, .int qa_so, .int qa_cracked, .int qa_behind, .int qa_allSighs, .int qa_seed, .ref qa_pictures, .ref qa_shown, .ref qa_sighed]))]) [4, 5, 2, 0, 3, 1] rfl rfl
        exact x_retvQ hQ B hw ⟨x22, x23, rfl, (by omega)⟩ (Nat.le_of_ble_eq_true rfl) (Nat.le_of_ble_eq_true rfl) dX0_write_92
    · skip
      have c10 : v9.toInt ≠ 0 := i_eqF (X := v9.toInt) (Y := 0) rfl rfl c10
      refine lv_aload_n C.1 C.2.1 dX0_write_46 rfl (lv_at hl 0 rfl) ?_
      refine va_ldcS C.1 C.2.1 C.2.2.2.1 (strk2 hw.1) dX0_write_47 ?_
      refine x_callvV (As := [.ref (G.2.2.1 2)]) (rest := []) (wr := [(qs, .inr (4, [.int qs_slides, .int qs_hearers, .int qs_nears, .int qs_lines, .int qs_pass, .int qs_spread, .int qs_lamp, .int qs_behind, .int qs_settingsTold, .ref qs_slideNames, .ref qs_pictures, .ref qs_heats, .ref qs_after, .ref qs_hearerNames, .ref qs_needs, .ref qs_likes, .ref qs_hates, .ref qs_near])), (qs_slideNames, eJ G 6 qs_slideNames_c), (qs_after, eI G 6 qs_after_c), (qa, .inr (7, [.int qa_hour, .int qa_heat, .int qa_black, .int qa_so, .int qa_cracked, .int qa_behind, .int qa_allSighs, .int qa_seed, .ref qa_pictures, .ref qa_shown, .ref qa_sighed]))]) C hw (s_X0_put qn qn_letters x2 x3 2 (by omega) (by omega)) mwX0_put kw920 [4, 5] [0, 1, 2, 3] rfl rfl rfl rfl (by decide) 0 rfl rfl rfl rfl hl.1 rfl (Nat.le_of_ble_eq_true rfl) ⟨(Nat.le_of_ble_eq_true rfl), (Nat.le_of_ble_eq_true rfl)⟩ ⟨(Nat.le_of_ble_eq_true rfl), (Nat.le_of_ble_eq_true rfl)⟩ dX0_write_49 (fun  u9 H locs hp9 hw => ?_)
      obtain ⟨x25, x26, rfl, hf27⟩ := hp9
      have hw : Wd G s A [(qs, .inr (4, [.int qs_slides, .int qs_hearers, .int qs_nears, .int qs_lines, .int qs_pass, .int qs_spread, .int qs_lamp, .int qs_behind, .int qs_settingsTold, .ref qs_slideNames, .ref qs_pictures, .ref qs_heats, .ref qs_after, .ref qs_hearerNames, .ref qs_needs, .ref qs_likes, .ref qs_hates, .ref qs_near])), (qs_slideNames, eJ G 6 qs_slideNames_c), (qs_after, eI G 6 qs_after_c), (qa, .inr (7, [.int qa_hour, .int qa_heat, .int qa_black, .int qa_so, .int qa_cracked, .int qa_behind, .int qa_allSighs, .int qa_seed, .ref qa_pictures, .ref qa_shown, .ref qa_sighed])), (qn, .inr (0, [.ref qn_letters, .int x25])), (qn_letters, eC G 40 x26)] H _ := hw
      refine lv_goto (tgt := 92) C.1 C.2.1 dX0_write_52 (by decide) ?_
      have hw := hw.sub (w' := [(qn, .inr (0, [.ref qn_letters, .int x25])), (qn_letters, eC G 40 x26), (qs, .inr (4, [.int qs_slides, .int qs_hearers, .int qs_nears, .int qs_lines, .int qs_pass, .int qs_spread, .int qs_lamp, .int qs_behind, .int qs_settingsTold, .ref qs_slideNames, .ref qs_pictures, .ref qs_heats, .ref qs_after, .ref qs_hearerNames, .ref qs_needs, .ref qs_likes, .ref qs_hates, .ref qs_near])), (qs_slideNames, eJ G 6 qs_slideNames_c), (qs_after, eI G 6 qs_after_c), (qa, .inr (7, [.int qa_hour, .int qa_heat, .int qa_black, .int qa_so, .int qa_cracked, .int qa_behind, .int qa_allSighs, .int qa_seed, .ref qa_pictures, .ref qa_shown, .ref qa_sighed]))]) [4, 5, 0, 1, 2, 3] rfl rfl
      exact x_retvQ hQ B hw ⟨x25, x26, rfl, (by omega)⟩ (Nat.le_of_ble_eq_true rfl) (Nat.le_of_ble_eq_true rfl) dX0_write_92
  · skip
    have c7 : v6.toInt ≠ 0 := i_eqF (X := v6.toInt) (Y := 0) rfl rfl c7
    refine lv_aload_n C.1 C.2.1 dX0_write_26 rfl (lv_at hl 0 rfl) ?_
    refine va_ldcS C.1 C.2.1 C.2.2.2.1 (strk1 hw.1) dX0_write_27 ?_
    refine x_callvV (As := [.ref (G.2.2.1 1)]) (rest := []) (wr := [(qs, .inr (4, [.int qs_slides, .int qs_hearers, .int qs_nears, .int qs_lines, .int qs_pass, .int qs_spread, .int qs_lamp, .int qs_behind, .int qs_settingsTold, .ref qs_slideNames, .ref qs_pictures, .ref qs_heats, .ref qs_after, .ref qs_hearerNames, .ref qs_needs, .ref qs_likes, .ref qs_hates, .ref qs_near])), (qs_slideNames, eJ G 6 qs_slideNames_c), (qs_after, eI G 6 qs_after_c), (qa, .inr (7, [.int qa_hour, .int qa_heat, .int qa_black, .int qa_so, .int qa_cracked, .int qa_behind, .int qa_allSighs, .int qa_seed, .ref qa_pictures, .ref qa_shown, .ref qa_sighed]))]) C hw (s_X0_put qn qn_letters x2 x3 1 (by omega) (by omega)) mwX0_put kw920 [4, 5] [0, 1, 2, 3] rfl rfl rfl rfl (by decide) 0 rfl rfl rfl rfl hl.1 rfl (Nat.le_of_ble_eq_true rfl) ⟨(Nat.le_of_ble_eq_true rfl), (Nat.le_of_ble_eq_true rfl)⟩ ⟨(Nat.le_of_ble_eq_true rfl), (Nat.le_of_ble_eq_true rfl)⟩ dX0_write_29 (fun  u9 H locs hp9 hw => ?_)
    obtain ⟨x28, x29, rfl, hf30⟩ := hp9
    have hw : Wd G s A [(qs, .inr (4, [.int qs_slides, .int qs_hearers, .int qs_nears, .int qs_lines, .int qs_pass, .int qs_spread, .int qs_lamp, .int qs_behind, .int qs_settingsTold, .ref qs_slideNames, .ref qs_pictures, .ref qs_heats, .ref qs_after, .ref qs_hearerNames, .ref qs_needs, .ref qs_likes, .ref qs_hates, .ref qs_near])), (qs_slideNames, eJ G 6 qs_slideNames_c), (qs_after, eI G 6 qs_after_c), (qa, .inr (7, [.int qa_hour, .int qa_heat, .int qa_black, .int qa_so, .int qa_cracked, .int qa_behind, .int qa_allSighs, .int qa_seed, .ref qa_pictures, .ref qa_shown, .ref qa_sighed])), (qn, .inr (0, [.ref qn_letters, .int x28])), (qn_letters, eC G 40 x29)] H _ := hw
    refine lv_goto (tgt := 92) C.1 C.2.1 dX0_write_32 (by decide) ?_
    have hw := hw.sub (w' := [(qn, .inr (0, [.ref qn_letters, .int x28])), (qn_letters, eC G 40 x29), (qs, .inr (4, [.int qs_slides, .int qs_hearers, .int qs_nears, .int qs_lines, .int qs_pass, .int qs_spread, .int qs_lamp, .int qs_behind, .int qs_settingsTold, .ref qs_slideNames, .ref qs_pictures, .ref qs_heats, .ref qs_after, .ref qs_hearerNames, .ref qs_needs, .ref qs_likes, .ref qs_hates, .ref qs_near])), (qs_slideNames, eJ G 6 qs_slideNames_c), (qs_after, eI G 6 qs_after_c), (qa, .inr (7, [.int qa_hour, .int qa_heat, .int qa_black, .int qa_so, .int qa_cracked, .int qa_behind, .int qa_allSighs, .int qa_seed, .ref qa_pictures, .ref qa_shown, .ref qa_sighed]))]) [4, 5, 0, 1, 2, 3] rfl rfl
    exact x_retvQ hQ B hw ⟨x28, x29, rfl, (by omega)⟩ (Nat.le_of_ble_eq_true rfl) (Nat.le_of_ble_eq_true rfl) dX0_write_92
