theorem dX8_copyFrom_0 : decode cX8_copyFrom 0 = .ok (.aload_n 0, 1) := by decide +kernel
theorem dX8_copyFrom_1 : decode cX8_copyFrom 1 = .ok (.aload_n 1, 1) := by decide +kernel
theorem dX8_copyFrom_2 : decode cX8_copyFrom 2 = .ok (.getfield 21, 3) := by decide +kernel
theorem dX8_copyFrom_5 : decode cX8_copyFrom 5 = .ok (.putfield 21, 3) := by decide +kernel
theorem dX8_copyFrom_8 : decode cX8_copyFrom 8 = .ok (.aload_n 0, 1) := by decide +kernel
theorem dX8_copyFrom_9 : decode cX8_copyFrom 9 = .ok (.aload_n 1, 1) := by decide +kernel
theorem dX8_copyFrom_10 : decode cX8_copyFrom 10 = .ok (.getfield 25, 3) := by decide +kernel
theorem dX8_copyFrom_13 : decode cX8_copyFrom 13 = .ok (.putfield 25, 3) := by decide +kernel
theorem dX8_copyFrom_16 : decode cX8_copyFrom 16 = .ok (.aload_n 0, 1) := by decide +kernel
theorem dX8_copyFrom_17 : decode cX8_copyFrom 17 = .ok (.aload_n 1, 1) := by decide +kernel
theorem dX8_copyFrom_18 : decode cX8_copyFrom 18 = .ok (.getfield 28, 3) := by decide +kernel
theorem dX8_copyFrom_21 : decode cX8_copyFrom 21 = .ok (.putfield 28, 3) := by decide +kernel
theorem dX8_copyFrom_24 : decode cX8_copyFrom 24 = .ok (.aload_n 0, 1) := by decide +kernel
theorem dX8_copyFrom_25 : decode cX8_copyFrom 25 = .ok (.aload_n 1, 1) := by decide +kernel
theorem dX8_copyFrom_26 : decode cX8_copyFrom 26 = .ok (.getfield 32, 3) := by decide +kernel
theorem dX8_copyFrom_29 : decode cX8_copyFrom 29 = .ok (.putfield 32, 3) := by decide +kernel
theorem dX8_copyFrom_32 : decode cX8_copyFrom 32 = .ok (.aload_n 0, 1) := by decide +kernel
theorem dX8_copyFrom_33 : decode cX8_copyFrom 33 = .ok (.aload_n 1, 1) := by decide +kernel
theorem dX8_copyFrom_34 : decode cX8_copyFrom 34 = .ok (.getfield 35, 3) := by decide +kernel
theorem dX8_copyFrom_37 : decode cX8_copyFrom 37 = .ok (.putfield 35, 3) := by decide +kernel
theorem dX8_copyFrom_40 : decode cX8_copyFrom 40 = .ok (.aload_n 0, 1) := by decide +kernel
theorem dX8_copyFrom_41 : decode cX8_copyFrom 41 = .ok (.aload_n 1, 1) := by decide +kernel
theorem dX8_copyFrom_42 : decode cX8_copyFrom 42 = .ok (.getfield 43, 3) := by decide +kernel
theorem dX8_copyFrom_45 : decode cX8_copyFrom 45 = .ok (.putfield 43, 3) := by decide +kernel
theorem dX8_copyFrom_48 : decode cX8_copyFrom 48 = .ok (.aload_n 0, 1) := by decide +kernel
theorem dX8_copyFrom_49 : decode cX8_copyFrom 49 = .ok (.aload_n 1, 1) := by decide +kernel
theorem dX8_copyFrom_50 : decode cX8_copyFrom 50 = .ok (.getfield 44, 3) := by decide +kernel
theorem dX8_copyFrom_53 : decode cX8_copyFrom 53 = .ok (.putfield 44, 3) := by decide +kernel
theorem dX8_copyFrom_56 : decode cX8_copyFrom 56 = .ok (.aload_n 1, 1) := by decide +kernel
theorem dX8_copyFrom_57 : decode cX8_copyFrom 57 = .ok (.getfield 9, 3) := by decide +kernel
theorem dX8_copyFrom_60 : decode cX8_copyFrom 60 = .ok (.iconst 0, 1) := by decide +kernel
theorem dX8_copyFrom_61 : decode cX8_copyFrom 61 = .ok (.aload_n 0, 1) := by decide +kernel
theorem dX8_copyFrom_62 : decode cX8_copyFrom 62 = .ok (.getfield 9, 3) := by decide +kernel
theorem dX8_copyFrom_65 : decode cX8_copyFrom 65 = .ok (.iconst 0, 1) := by decide +kernel
theorem dX8_copyFrom_66 : decode cX8_copyFrom 66 = .ok (.bipush 6, 2) := by decide +kernel
theorem dX8_copyFrom_68 : decode cX8_copyFrom 68 = .ok (.invokestatic 48, 3) := by decide +kernel
theorem dX8_copyFrom_71 : decode cX8_copyFrom 71 = .ok (.aload_n 1, 1) := by decide +kernel
theorem dX8_copyFrom_72 : decode cX8_copyFrom 72 = .ok (.getfield 15, 3) := by decide +kernel
theorem dX8_copyFrom_75 : decode cX8_copyFrom 75 = .ok (.iconst 0, 1) := by decide +kernel
theorem dX8_copyFrom_76 : decode cX8_copyFrom 76 = .ok (.aload_n 0, 1) := by decide +kernel
theorem dX8_copyFrom_77 : decode cX8_copyFrom 77 = .ok (.getfield 15, 3) := by decide +kernel
theorem dX8_copyFrom_80 : decode cX8_copyFrom 80 = .ok (.iconst 0, 1) := by decide +kernel
theorem dX8_copyFrom_81 : decode cX8_copyFrom 81 = .ok (.bipush 6, 2) := by decide +kernel
theorem dX8_copyFrom_83 : decode cX8_copyFrom 83 = .ok (.invokestatic 48, 3) := by decide +kernel
theorem dX8_copyFrom_86 : decode cX8_copyFrom 86 = .ok (.aload_n 1, 1) := by decide +kernel
theorem dX8_copyFrom_87 : decode cX8_copyFrom 87 = .ok (.getfield 18, 3) := by decide +kernel
theorem dX8_copyFrom_90 : decode cX8_copyFrom 90 = .ok (.iconst 0, 1) := by decide +kernel
theorem dX8_copyFrom_91 : decode cX8_copyFrom 91 = .ok (.aload_n 0, 1) := by decide +kernel
theorem dX8_copyFrom_92 : decode cX8_copyFrom 92 = .ok (.getfield 18, 3) := by decide +kernel
theorem dX8_copyFrom_95 : decode cX8_copyFrom 95 = .ok (.iconst 0, 1) := by decide +kernel
theorem dX8_copyFrom_96 : decode cX8_copyFrom 96 = .ok (.bipush 8, 2) := by decide +kernel
theorem dX8_copyFrom_98 : decode cX8_copyFrom 98 = .ok (.invokestatic 48, 3) := by decide +kernel
theorem dX8_copyFrom_101 : decode cX8_copyFrom 101 = .ok (.return_, 1) := by decide +kernel
-- State.copyFrom
set_option maxHeartbeats 4000000 in
set_option maxRecDepth 100000 in
theorem c_X8_copyFrom {l : Launch} {G : Gc} (qa : Nat) (qz : Nat) (a_hour : Int32) (a_heat : Int32) (a_black : Int32) (a_so : Int32) (a_cracked : Int32) (a_behind : Int32) (a_allSighs : Int32) (a_seed : Int32) (apictures : Nat) (ashown : Nat) (asighed : Nat) (fa_pictures : Nat → Int32) (fa_shown : Nat → Int32) (fa_sighed : Nat → Int32) (z_hour : Int32) (z_heat : Int32) (z_black : Int32) (z_so : Int32) (z_cracked : Int32) (z_behind : Int32) (z_allSighs : Int32) (z_seed : Int32) (zpictures : Nat) (zshown : Nat) (zsighed : Nat) (fz_pictures : Nat → Int32) (fz_shown : Nat → Int32) (fz_sighed : Nat → Int32) (hz_black : isB z_black) : Cv l yX8_copyFrom cX8_copyFrom 2 1 0 0 G [.ref qa, .ref qz] [(qa, .inr (7, [.int a_hour, .int a_heat, .int a_black, .int a_so, .int a_cracked, .int a_behind, .int a_allSighs, .int a_seed, .ref apictures, .ref ashown, .ref asighed])), (apictures, eI G 6 fa_pictures), (ashown, eI G 6 fa_shown), (asighed, eI G 8 fa_sighed), (qz, .inr (7, [.int z_hour, .int z_heat, .int z_black, .int z_so, .int z_cracked, .int z_behind, .int z_allSighs, .int z_seed, .ref zpictures, .ref zshown, .ref zsighed])), (zpictures, eI G 6 fz_pictures), (zshown, eI G 6 fz_shown), (zsighed, eI G 8 fz_sighed)] (fun (u9 : va_W) => u9 = [(qa, .inr (7, [.int z_hour, .int z_heat, .int z_black, .int z_so, .int z_cracked, .int z_behind, .int z_allSighs, .int a_seed, .ref apictures, .ref ashown, .ref asighed])), (apictures, eI G 6 (va_cpy fz_pictures fa_pictures 0 0 6)), (ashown, eI G 6 (va_cpy fz_shown fa_shown 0 0 6)), (asighed, eI G 8 (va_cpy fz_sighed fa_sighed 0 0 8)), (qz, .inr (7, [.int z_hour, .int z_heat, .int z_black, .int z_so, .int z_cracked, .int z_behind, .int z_allSighs, .int z_seed, .ref zpictures, .ref zshown, .ref zsighed])), (zpictures, eI G 6 fz_pictures), (zshown, eI G 6 fz_shown), (zsighed, eI G 8 fz_sighed)]) := by
  refine Cv.of (by decide) (Nat.le_of_ble_eq_true rfl) ?_
  intro p e s m below meth c ls A B hw hl
  have C : CallFix p m c cX8_copyFrom 2 s _ gw "LanternState$State" := B.1
  have hl : lv_has ls 2 [(0, .ref qa), (1, .ref qz)] := hl
  refine lv_aload_n C.1 C.2.1 dX8_copyFrom_0 rfl (lv_at hl 0 rfl) ?_
  refine lv_aload_n C.1 C.2.1 dX8_copyFrom_1 rfl (lv_at hl 1 rfl) ?_
  refine x_get C hw iwX8 7 rfl 4 rfl 0 (by decide) kw237 rfl dX8_copyFrom_2 ?_
  refine x_put (w' := [(qa, .inr (7, [.int z_hour, .int a_heat, .int a_black, .int a_so, .int a_cracked, .int a_behind, .int a_allSighs, .int a_seed, .ref apictures, .ref ashown, .ref asighed])), (apictures, eI G 6 fa_pictures), (ashown, eI G 6 fa_shown), (asighed, eI G 8 fa_sighed), (qz, .inr (7, [.int z_hour, .int z_heat, .int z_black, .int z_so, .int z_cracked, .int z_behind, .int z_allSighs, .int z_seed, .ref zpictures, .ref zshown, .ref zsighed])), (zpictures, eI G 6 fz_pictures), (zshown, eI G 6 fz_shown), (zsighed, eI G 8 fz_sighed)]) C hw iwX8 tyX8_ok nmX8 7 rfl 0 rfl 0 (by decide) kw237 rfl rfl rfl (Nat.le_of_ble_eq_true rfl) rfl dX8_copyFrom_5 (fun H locs hw => ?_)
  refine lv_aload_n C.1 C.2.1 dX8_copyFrom_8 rfl (lv_at hl 0 rfl) ?_
  refine lv_aload_n C.1 C.2.1 dX8_copyFrom_9 rfl (lv_at hl 1 rfl) ?_
  refine x_get C hw iwX8 7 rfl 4 rfl 1 (by decide) kw240 rfl dX8_copyFrom_10 ?_
  refine x_put (w' := [(qa, .inr (7, [.int z_hour, .int z_heat, .int a_black, .int a_so, .int a_cracked, .int a_behind, .int a_allSighs, .int a_seed, .ref apictures, .ref ashown, .ref asighed])), (apictures, eI G 6 fa_pictures), (ashown, eI G 6 fa_shown), (asighed, eI G 8 fa_sighed), (qz, .inr (7, [.int z_hour, .int z_heat, .int z_black, .int z_so, .int z_cracked, .int z_behind, .int z_allSighs, .int z_seed, .ref zpictures, .ref zshown, .ref zsighed])), (zpictures, eI G 6 fz_pictures), (zshown, eI G 6 fz_shown), (zsighed, eI G 8 fz_sighed)]) C hw iwX8 tyX8_ok nmX8 7 rfl 0 rfl 1 (by decide) kw240 rfl rfl rfl (Nat.le_of_ble_eq_true rfl) rfl dX8_copyFrom_13 (fun H locs hw => ?_)
  refine lv_aload_n C.1 C.2.1 dX8_copyFrom_16 rfl (lv_at hl 0 rfl) ?_
  refine lv_aload_n C.1 C.2.1 dX8_copyFrom_17 rfl (lv_at hl 1 rfl) ?_
  refine x_get C hw iwX8 7 rfl 4 rfl 2 (by decide) kw243 rfl dX8_copyFrom_18 ?_
  refine x_put (w' := [(qa, .inr (7, [.int z_hour, .int z_heat, .int z_black, .int a_so, .int a_cracked, .int a_behind, .int a_allSighs, .int a_seed, .ref apictures, .ref ashown, .ref asighed])), (apictures, eI G 6 fa_pictures), (ashown, eI G 6 fa_shown), (asighed, eI G 8 fa_sighed), (qz, .inr (7, [.int z_hour, .int z_heat, .int z_black, .int z_so, .int z_cracked, .int z_behind, .int z_allSighs, .int z_seed, .ref zpictures, .ref zshown, .ref zsighed])), (zpictures, eI G 6 fz_pictures), (zshown, eI G 6 fz_shown), (zsighed, eI G 8 fz_sighed)]) C hw iwX8 tyX8_ok nmX8 7 rfl 0 rfl 2 (by decide) kw243 rfl hz_black.1 hz_black.2 (Nat.le_of_ble_eq_true rfl) rfl dX8_copyFrom_21 (fun H locs hw => ?_)
  refine lv_aload_n C.1 C.2.1 dX8_copyFrom_24 rfl (lv_at hl 0 rfl) ?_
  refine lv_aload_n C.1 C.2.1 dX8_copyFrom_25 rfl (lv_at hl 1 rfl) ?_
  refine x_get C hw iwX8 7 rfl 4 rfl 3 (by decide) kw247 rfl dX8_copyFrom_26 ?_
  refine x_put (w' := [(qa, .inr (7, [.int z_hour, .int z_heat, .int z_black, .int z_so, .int a_cracked, .int a_behind, .int a_allSighs, .int a_seed, .ref apictures, .ref ashown, .ref asighed])), (apictures, eI G 6 fa_pictures), (ashown, eI G 6 fa_shown), (asighed, eI G 8 fa_sighed), (qz, .inr (7, [.int z_hour, .int z_heat, .int z_black, .int z_so, .int z_cracked, .int z_behind, .int z_allSighs, .int z_seed, .ref zpictures, .ref zshown, .ref zsighed])), (zpictures, eI G 6 fz_pictures), (zshown, eI G 6 fz_shown), (zsighed, eI G 8 fz_sighed)]) C hw iwX8 tyX8_ok nmX8 7 rfl 0 rfl 3 (by decide) kw247 rfl rfl rfl (Nat.le_of_ble_eq_true rfl) rfl dX8_copyFrom_29 (fun H locs hw => ?_)
  refine lv_aload_n C.1 C.2.1 dX8_copyFrom_32 rfl (lv_at hl 0 rfl) ?_
  refine lv_aload_n C.1 C.2.1 dX8_copyFrom_33 rfl (lv_at hl 1 rfl) ?_
  refine x_get C hw iwX8 7 rfl 4 rfl 4 (by decide) kw251 rfl dX8_copyFrom_34 ?_
  refine x_put (w' := [(qa, .inr (7, [.int z_hour, .int z_heat, .int z_black, .int z_so, .int z_cracked, .int a_behind, .int a_allSighs, .int a_seed, .ref apictures, .ref ashown, .ref asighed])), (apictures, eI G 6 fa_pictures), (ashown, eI G 6 fa_shown), (asighed, eI G 8 fa_sighed), (qz, .inr (7, [.int z_hour, .int z_heat, .int z_black, .int z_so, .int z_cracked, .int z_behind, .int z_allSighs, .int z_seed, .ref zpictures, .ref zshown, .ref zsighed])), (zpictures, eI G 6 fz_pictures), (zshown, eI G 6 fz_shown), (zsighed, eI G 8 fz_sighed)]) C hw iwX8 tyX8_ok nmX8 7 rfl 0 rfl 4 (by decide) kw251 rfl rfl rfl (Nat.le_of_ble_eq_true rfl) rfl dX8_copyFrom_37 (fun H locs hw => ?_)
  refine lv_aload_n C.1 C.2.1 dX8_copyFrom_40 rfl (lv_at hl 0 rfl) ?_
  refine lv_aload_n C.1 C.2.1 dX8_copyFrom_41 rfl (lv_at hl 1 rfl) ?_
  refine x_get C hw iwX8 7 rfl 4 rfl 5 (by decide) kw256 rfl dX8_copyFrom_42 ?_
  refine x_put (w' := [(qa, .inr (7, [.int z_hour, .int z_heat, .int z_black, .int z_so, .int z_cracked, .int z_behind, .int a_allSighs, .int a_seed, .ref apictures, .ref ashown, .ref asighed])), (apictures, eI G 6 fa_pictures), (ashown, eI G 6 fa_shown), (asighed, eI G 8 fa_sighed), (qz, .inr (7, [.int z_hour, .int z_heat, .int z_black, .int z_so, .int z_cracked, .int z_behind, .int z_allSighs, .int z_seed, .ref zpictures, .ref zshown, .ref zsighed])), (zpictures, eI G 6 fz_pictures), (zshown, eI G 6 fz_shown), (zsighed, eI G 8 fz_sighed)]) C hw iwX8 tyX8_ok nmX8 7 rfl 0 rfl 5 (by decide) kw256 rfl rfl rfl (Nat.le_of_ble_eq_true rfl) rfl dX8_copyFrom_45 (fun H locs hw => ?_)
  refine lv_aload_n C.1 C.2.1 dX8_copyFrom_48 rfl (lv_at hl 0 rfl) ?_
  refine lv_aload_n C.1 C.2.1 dX8_copyFrom_49 rfl (lv_at hl 1 rfl) ?_
  refine x_get C hw iwX8 7 rfl 4 rfl 6 (by decide) kw260 rfl dX8_copyFrom_50 ?_
  refine x_put (w' := [(qa, .inr (7, [.int z_hour, .int z_heat, .int z_black, .int z_so, .int z_cracked, .int z_behind, .int z_allSighs, .int a_seed, .ref apictures, .ref ashown, .ref asighed])), (apictures, eI G 6 fa_pictures), (ashown, eI G 6 fa_shown), (asighed, eI G 8 fa_sighed), (qz, .inr (7, [.int z_hour, .int z_heat, .int z_black, .int z_so, .int z_cracked, .int z_behind, .int z_allSighs, .int z_seed, .ref zpictures, .ref zshown, .ref zsighed])), (zpictures, eI G 6 fz_pictures), (zshown, eI G 6 fz_shown), (zsighed, eI G 8 fz_sighed)]) C hw iwX8 tyX8_ok nmX8 7 rfl 0 rfl 6 (by decide) kw260 rfl rfl rfl (Nat.le_of_ble_eq_true rfl) rfl dX8_copyFrom_53 (fun H locs hw => ?_)
  refine lv_aload_n C.1 C.2.1 dX8_copyFrom_56 rfl (lv_at hl 1 rfl) ?_
  refine x_get C hw iwX8 7 rfl 4 rfl 8 (by decide) kw263 rfl dX8_copyFrom_57 ?_
  refine lv_iconst (v := 0) C.1 C.2.1 dX8_copyFrom_60 (by decide) ?_
  refine lv_aload_n C.1 C.2.1 dX8_copyFrom_61 rfl (lv_at hl 0 rfl) ?_
  refine x_get C hw iwX8 7 rfl 0 rfl 8 (by decide) kw263 rfl dX8_copyFrom_62 ?_
  refine lv_iconst (v := 0) C.1 C.2.1 dX8_copyFrom_65 (by decide) ?_
  refine lv_bipush (v := 6) C.1 C.2.1 dX8_copyFrom_66 (by decide) ?_
  refine x_copyi (g' := (va_cpy fz_pictures fa_pictures 0 0 6)) (w' := [(qa, .inr (7, [.int z_hour, .int z_heat, .int z_black, .int z_so, .int z_cracked, .int z_behind, .int z_allSighs, .int a_seed, .ref apictures, .ref ashown, .ref asighed])), (apictures, eI G 6 (va_cpy fz_pictures fa_pictures 0 0 6)), (ashown, eI G 6 fa_shown), (asighed, eI G 8 fa_sighed), (qz, .inr (7, [.int z_hour, .int z_heat, .int z_black, .int z_so, .int z_cracked, .int z_behind, .int z_allSighs, .int z_seed, .ref zpictures, .ref zshown, .ref zsighed])), (zpictures, eI G 6 fz_pictures), (zshown, eI G 6 fz_shown), (zsighed, eI G 8 fz_sighed)]) C hw kw694 hl.1 5 1 rfl rfl (by decide) (by decide) (by decide) (Nat.le_of_ble_eq_true rfl) (Nat.le_of_ble_eq_true rfl) rfl rfl (Nat.le_of_ble_eq_true rfl) (Nat.le_of_ble_eq_true rfl) dX8_copyFrom_68 (fun H locs hw => ?_)
  refine lv_aload_n C.1 C.2.1 dX8_copyFrom_71 rfl (lv_at hl 1 rfl) ?_
  refine x_get C hw iwX8 7 rfl 4 rfl 9 (by decide) kw267 rfl dX8_copyFrom_72 ?_
  refine lv_iconst (v := 0) C.1 C.2.1 dX8_copyFrom_75 (by decide) ?_
  refine lv_aload_n C.1 C.2.1 dX8_copyFrom_76 rfl (lv_at hl 0 rfl) ?_
  refine x_get C hw iwX8 7 rfl 0 rfl 9 (by decide) kw267 rfl dX8_copyFrom_77 ?_
  refine lv_iconst (v := 0) C.1 C.2.1 dX8_copyFrom_80 (by decide) ?_
  refine lv_bipush (v := 6) C.1 C.2.1 dX8_copyFrom_81 (by decide) ?_
  refine x_copyi (g' := (va_cpy fz_shown fa_shown 0 0 6)) (w' := [(qa, .inr (7, [.int z_hour, .int z_heat, .int z_black, .int z_so, .int z_cracked, .int z_behind, .int z_allSighs, .int a_seed, .ref apictures, .ref ashown, .ref asighed])), (apictures, eI G 6 (va_cpy fz_pictures fa_pictures 0 0 6)), (ashown, eI G 6 (va_cpy fz_shown fa_shown 0 0 6)), (asighed, eI G 8 fa_sighed), (qz, .inr (7, [.int z_hour, .int z_heat, .int z_black, .int z_so, .int z_cracked, .int z_behind, .int z_allSighs, .int z_seed, .ref zpictures, .ref zshown, .ref zsighed])), (zpictures, eI G 6 fz_pictures), (zshown, eI G 6 fz_shown), (zsighed, eI G 8 fz_sighed)]) C hw kw694 hl.1 6 2 rfl rfl (by decide) (by decide) (by decide) (Nat.le_of_ble_eq_true rfl) (Nat.le_of_ble_eq_true rfl) rfl rfl (Nat.le_of_ble_eq_true rfl) (Nat.le_of_ble_eq_true rfl) dX8_copyFrom_83 (fun H locs hw => ?_)
  refine lv_aload_n C.1 C.2.1 dX8_copyFrom_86 rfl (lv_at hl 1 rfl) ?_
  refine x_get C hw iwX8 7 rfl 4 rfl 10 (by decide) kw269 rfl dX8_copyFrom_87 ?_
  refine lv_iconst (v := 0) C.1 C.2.1 dX8_copyFrom_90 (by decide) ?_
  refine lv_aload_n C.1 C.2.1 dX8_copyFrom_91 rfl (lv_at hl 0 rfl) ?_
  refine x_get C hw iwX8 7 rfl 0 rfl 10 (by decide) kw269 rfl dX8_copyFrom_92 ?_
  refine lv_iconst (v := 0) C.1 C.2.1 dX8_copyFrom_95 (by decide) ?_
  refine lv_bipush (v := 8) C.1 C.2.1 dX8_copyFrom_96 (by decide) ?_
  refine x_copyi (g' := (va_cpy fz_sighed fa_sighed 0 0 8)) (w' := [(qa, .inr (7, [.int z_hour, .int z_heat, .int z_black, .int z_so, .int z_cracked, .int z_behind, .int z_allSighs, .int a_seed, .ref apictures, .ref ashown, .ref asighed])), (apictures, eI G 6 (va_cpy fz_pictures fa_pictures 0 0 6)), (ashown, eI G 6 (va_cpy fz_shown fa_shown 0 0 6)), (asighed, eI G 8 (va_cpy fz_sighed fa_sighed 0 0 8)), (qz, .inr (7, [.int z_hour, .int z_heat, .int z_black, .int z_so, .int z_cracked, .int z_behind, .int z_allSighs, .int z_seed, .ref zpictures, .ref zshown, .ref zsighed])), (zpictures, eI G 6 fz_pictures), (zshown, eI G 6 fz_shown), (zsighed, eI G 8 fz_sighed)]) C hw kw694 hl.1 7 3 rfl rfl (by decide) (by decide) (by decide) (Nat.le_of_ble_eq_true rfl) (Nat.le_of_ble_eq_true rfl) rfl rfl (Nat.le_of_ble_eq_true rfl) (Nat.le_of_ble_eq_true rfl) dX8_copyFrom_98 (fun H locs hw => ?_)
  exact x_retv B hw rfl (Nat.le_of_ble_eq_true rfl) (Nat.le_of_ble_eq_true rfl) dX8_copyFrom_101
theorem dX5_copyFrom_0 : decode cX5_copyFrom 0 = .ok (.aload_n 0, 1) := by decide +kernel
theorem dX5_copyFrom_1 : decode cX5_copyFrom 1 = .ok (.aload_n 1, 1) := by decide +kernel
theorem dX5_copyFrom_2 : decode cX5_copyFrom 2 = .ok (.getfield 47, 3) := by decide +kernel
theorem dX5_copyFrom_5 : decode cX5_copyFrom 5 = .ok (.putfield 47, 3) := by decide +kernel
theorem dX5_copyFrom_8 : decode cX5_copyFrom 8 = .ok (.aload_n 0, 1) := by decide +kernel
theorem dX5_copyFrom_9 : decode cX5_copyFrom 9 = .ok (.aload_n 1, 1) := by decide +kernel
theorem dX5_copyFrom_10 : decode cX5_copyFrom 10 = .ok (.getfield 50, 3) := by decide +kernel
theorem dX5_copyFrom_13 : decode cX5_copyFrom 13 = .ok (.putfield 50, 3) := by decide +kernel
theorem dX5_copyFrom_16 : decode cX5_copyFrom 16 = .ok (.aload_n 0, 1) := by decide +kernel
theorem dX5_copyFrom_17 : decode cX5_copyFrom 17 = .ok (.aload_n 1, 1) := by decide +kernel
theorem dX5_copyFrom_18 : decode cX5_copyFrom 18 = .ok (.getfield 53, 3) := by decide +kernel
theorem dX5_copyFrom_21 : decode cX5_copyFrom 21 = .ok (.putfield 53, 3) := by decide +kernel
theorem dX5_copyFrom_24 : decode cX5_copyFrom 24 = .ok (.aload_n 0, 1) := by decide +kernel
theorem dX5_copyFrom_25 : decode cX5_copyFrom 25 = .ok (.aload_n 1, 1) := by decide +kernel
theorem dX5_copyFrom_26 : decode cX5_copyFrom 26 = .ok (.getfield 56, 3) := by decide +kernel
theorem dX5_copyFrom_29 : decode cX5_copyFrom 29 = .ok (.putfield 56, 3) := by decide +kernel
theorem dX5_copyFrom_32 : decode cX5_copyFrom 32 = .ok (.aload_n 0, 1) := by decide +kernel
theorem dX5_copyFrom_33 : decode cX5_copyFrom 33 = .ok (.aload_n 1, 1) := by decide +kernel
theorem dX5_copyFrom_34 : decode cX5_copyFrom 34 = .ok (.getfield 9, 3) := by decide +kernel
theorem dX5_copyFrom_37 : decode cX5_copyFrom 37 = .ok (.putfield 9, 3) := by decide +kernel
theorem dX5_copyFrom_40 : decode cX5_copyFrom 40 = .ok (.aload_n 0, 1) := by decide +kernel
theorem dX5_copyFrom_41 : decode cX5_copyFrom 41 = .ok (.aload_n 1, 1) := by decide +kernel
theorem dX5_copyFrom_42 : decode cX5_copyFrom 42 = .ok (.getfield 59, 3) := by decide +kernel
theorem dX5_copyFrom_45 : decode cX5_copyFrom 45 = .ok (.putfield 59, 3) := by decide +kernel
theorem dX5_copyFrom_48 : decode cX5_copyFrom 48 = .ok (.aload_n 0, 1) := by decide +kernel
theorem dX5_copyFrom_49 : decode cX5_copyFrom 49 = .ok (.aload_n 1, 1) := by decide +kernel
theorem dX5_copyFrom_50 : decode cX5_copyFrom 50 = .ok (.getfield 15, 3) := by decide +kernel
theorem dX5_copyFrom_53 : decode cX5_copyFrom 53 = .ok (.putfield 15, 3) := by decide +kernel
theorem dX5_copyFrom_56 : decode cX5_copyFrom 56 = .ok (.aload_n 0, 1) := by decide +kernel
theorem dX5_copyFrom_57 : decode cX5_copyFrom 57 = .ok (.aload_n 1, 1) := by decide +kernel
theorem dX5_copyFrom_58 : decode cX5_copyFrom 58 = .ok (.getfield 62, 3) := by decide +kernel
theorem dX5_copyFrom_61 : decode cX5_copyFrom 61 = .ok (.putfield 62, 3) := by decide +kernel
theorem dX5_copyFrom_64 : decode cX5_copyFrom 64 = .ok (.aload_n 1, 1) := by decide +kernel
theorem dX5_copyFrom_65 : decode cX5_copyFrom 65 = .ok (.getfield 18, 3) := by decide +kernel
theorem dX5_copyFrom_68 : decode cX5_copyFrom 68 = .ok (.iconst 0, 1) := by decide +kernel
theorem dX5_copyFrom_69 : decode cX5_copyFrom 69 = .ok (.aload_n 0, 1) := by decide +kernel
theorem dX5_copyFrom_70 : decode cX5_copyFrom 70 = .ok (.getfield 18, 3) := by decide +kernel
theorem dX5_copyFrom_73 : decode cX5_copyFrom 73 = .ok (.iconst 0, 1) := by decide +kernel
theorem dX5_copyFrom_74 : decode cX5_copyFrom 74 = .ok (.bipush 6, 2) := by decide +kernel
theorem dX5_copyFrom_76 : decode cX5_copyFrom 76 = .ok (.invokestatic 68, 3) := by decide +kernel
theorem dX5_copyFrom_79 : decode cX5_copyFrom 79 = .ok (.aload_n 1, 1) := by decide +kernel
theorem dX5_copyFrom_80 : decode cX5_copyFrom 80 = .ok (.getfield 22, 3) := by decide +kernel
theorem dX5_copyFrom_83 : decode cX5_copyFrom 83 = .ok (.iconst 0, 1) := by decide +kernel
theorem dX5_copyFrom_84 : decode cX5_copyFrom 84 = .ok (.aload_n 0, 1) := by decide +kernel
theorem dX5_copyFrom_85 : decode cX5_copyFrom 85 = .ok (.getfield 22, 3) := by decide +kernel
theorem dX5_copyFrom_88 : decode cX5_copyFrom 88 = .ok (.iconst 0, 1) := by decide +kernel
theorem dX5_copyFrom_89 : decode cX5_copyFrom 89 = .ok (.bipush 6, 2) := by decide +kernel
theorem dX5_copyFrom_91 : decode cX5_copyFrom 91 = .ok (.invokestatic 68, 3) := by decide +kernel
theorem dX5_copyFrom_94 : decode cX5_copyFrom 94 = .ok (.aload_n 1, 1) := by decide +kernel
theorem dX5_copyFrom_95 : decode cX5_copyFrom 95 = .ok (.getfield 26, 3) := by decide +kernel
theorem dX5_copyFrom_98 : decode cX5_copyFrom 98 = .ok (.iconst 0, 1) := by decide +kernel
theorem dX5_copyFrom_99 : decode cX5_copyFrom 99 = .ok (.aload_n 0, 1) := by decide +kernel
theorem dX5_copyFrom_100 : decode cX5_copyFrom 100 = .ok (.getfield 26, 3) := by decide +kernel
theorem dX5_copyFrom_103 : decode cX5_copyFrom 103 = .ok (.iconst 0, 1) := by decide +kernel
theorem dX5_copyFrom_104 : decode cX5_copyFrom 104 = .ok (.bipush 6, 2) := by decide +kernel
theorem dX5_copyFrom_106 : decode cX5_copyFrom 106 = .ok (.invokestatic 68, 3) := by decide +kernel
theorem dX5_copyFrom_109 : decode cX5_copyFrom 109 = .ok (.aload_n 1, 1) := by decide +kernel
theorem dX5_copyFrom_110 : decode cX5_copyFrom 110 = .ok (.getfield 29, 3) := by decide +kernel
theorem dX5_copyFrom_113 : decode cX5_copyFrom 113 = .ok (.iconst 0, 1) := by decide +kernel
theorem dX5_copyFrom_114 : decode cX5_copyFrom 114 = .ok (.aload_n 0, 1) := by decide +kernel
theorem dX5_copyFrom_115 : decode cX5_copyFrom 115 = .ok (.getfield 29, 3) := by decide +kernel
theorem dX5_copyFrom_118 : decode cX5_copyFrom 118 = .ok (.iconst 0, 1) := by decide +kernel
theorem dX5_copyFrom_119 : decode cX5_copyFrom 119 = .ok (.bipush 6, 2) := by decide +kernel
theorem dX5_copyFrom_121 : decode cX5_copyFrom 121 = .ok (.invokestatic 68, 3) := by decide +kernel
theorem dX5_copyFrom_124 : decode cX5_copyFrom 124 = .ok (.aload_n 1, 1) := by decide +kernel
theorem dX5_copyFrom_125 : decode cX5_copyFrom 125 = .ok (.getfield 32, 3) := by decide +kernel
theorem dX5_copyFrom_128 : decode cX5_copyFrom 128 = .ok (.iconst 0, 1) := by decide +kernel
theorem dX5_copyFrom_129 : decode cX5_copyFrom 129 = .ok (.aload_n 0, 1) := by decide +kernel
theorem dX5_copyFrom_130 : decode cX5_copyFrom 130 = .ok (.getfield 32, 3) := by decide +kernel
theorem dX5_copyFrom_133 : decode cX5_copyFrom 133 = .ok (.iconst 0, 1) := by decide +kernel
theorem dX5_copyFrom_134 : decode cX5_copyFrom 134 = .ok (.bipush 8, 2) := by decide +kernel
theorem dX5_copyFrom_136 : decode cX5_copyFrom 136 = .ok (.invokestatic 68, 3) := by decide +kernel
theorem dX5_copyFrom_139 : decode cX5_copyFrom 139 = .ok (.aload_n 1, 1) := by decide +kernel
theorem dX5_copyFrom_140 : decode cX5_copyFrom 140 = .ok (.getfield 35, 3) := by decide +kernel
theorem dX5_copyFrom_143 : decode cX5_copyFrom 143 = .ok (.iconst 0, 1) := by decide +kernel
theorem dX5_copyFrom_144 : decode cX5_copyFrom 144 = .ok (.aload_n 0, 1) := by decide +kernel
theorem dX5_copyFrom_145 : decode cX5_copyFrom 145 = .ok (.getfield 35, 3) := by decide +kernel
theorem dX5_copyFrom_148 : decode cX5_copyFrom 148 = .ok (.iconst 0, 1) := by decide +kernel
theorem dX5_copyFrom_149 : decode cX5_copyFrom 149 = .ok (.bipush 8, 2) := by decide +kernel
theorem dX5_copyFrom_151 : decode cX5_copyFrom 151 = .ok (.invokestatic 68, 3) := by decide +kernel
theorem dX5_copyFrom_154 : decode cX5_copyFrom 154 = .ok (.aload_n 1, 1) := by decide +kernel
theorem dX5_copyFrom_155 : decode cX5_copyFrom 155 = .ok (.getfield 38, 3) := by decide +kernel
theorem dX5_copyFrom_158 : decode cX5_copyFrom 158 = .ok (.iconst 0, 1) := by decide +kernel
theorem dX5_copyFrom_159 : decode cX5_copyFrom 159 = .ok (.aload_n 0, 1) := by decide +kernel
theorem dX5_copyFrom_160 : decode cX5_copyFrom 160 = .ok (.getfield 38, 3) := by decide +kernel
theorem dX5_copyFrom_163 : decode cX5_copyFrom 163 = .ok (.iconst 0, 1) := by decide +kernel
theorem dX5_copyFrom_164 : decode cX5_copyFrom 164 = .ok (.bipush 8, 2) := by decide +kernel
theorem dX5_copyFrom_166 : decode cX5_copyFrom 166 = .ok (.invokestatic 68, 3) := by decide +kernel
theorem dX5_copyFrom_169 : decode cX5_copyFrom 169 = .ok (.aload_n 1, 1) := by decide +kernel
theorem dX5_copyFrom_170 : decode cX5_copyFrom 170 = .ok (.getfield 41, 3) := by decide +kernel
theorem dX5_copyFrom_173 : decode cX5_copyFrom 173 = .ok (.iconst 0, 1) := by decide +kernel
theorem dX5_copyFrom_174 : decode cX5_copyFrom 174 = .ok (.aload_n 0, 1) := by decide +kernel
theorem dX5_copyFrom_175 : decode cX5_copyFrom 175 = .ok (.getfield 41, 3) := by decide +kernel
theorem dX5_copyFrom_178 : decode cX5_copyFrom 178 = .ok (.iconst 0, 1) := by decide +kernel
theorem dX5_copyFrom_179 : decode cX5_copyFrom 179 = .ok (.bipush 8, 2) := by decide +kernel
theorem dX5_copyFrom_181 : decode cX5_copyFrom 181 = .ok (.invokestatic 68, 3) := by decide +kernel
theorem dX5_copyFrom_184 : decode cX5_copyFrom 184 = .ok (.aload_n 1, 1) := by decide +kernel
theorem dX5_copyFrom_185 : decode cX5_copyFrom 185 = .ok (.getfield 44, 3) := by decide +kernel
theorem dX5_copyFrom_188 : decode cX5_copyFrom 188 = .ok (.iconst 0, 1) := by decide +kernel
theorem dX5_copyFrom_189 : decode cX5_copyFrom 189 = .ok (.aload_n 0, 1) := by decide +kernel
theorem dX5_copyFrom_190 : decode cX5_copyFrom 190 = .ok (.getfield 44, 3) := by decide +kernel
theorem dX5_copyFrom_193 : decode cX5_copyFrom 193 = .ok (.iconst 0, 1) := by decide +kernel
theorem dX5_copyFrom_194 : decode cX5_copyFrom 194 = .ok (.bipush 8, 2) := by decide +kernel
theorem dX5_copyFrom_196 : decode cX5_copyFrom 196 = .ok (.invokestatic 68, 3) := by decide +kernel
theorem dX5_copyFrom_199 : decode cX5_copyFrom 199 = .ok (.return_, 1) := by decide +kernel
-- Scene.copyFrom
set_option maxHeartbeats 4000000 in
set_option maxRecDepth 100000 in
theorem c_X5_copyFrom {l : Launch} {G : Gc} (qs : Nat) (qy : Nat) (s_slides : Int32) (s_hearers : Int32) (s_nears : Int32) (s_lines : Int32) (s_pass : Int32) (s_spread : Int32) (s_lamp : Int32) (s_behind : Int32) (s_settingsTold : Int32) (sslideNames : Nat) (spictures : Nat) (sheats : Nat) (safter : Nat) (shearerNames : Nat) (sneeds : Nat) (slikes : Nat) (shates : Nat) (snear : Nat) (fs_slideNames : Nat → Int64) (fs_pictures : Nat → Int32) (fs_heats : Nat → Int32) (fs_after : Nat → Int32) (fs_hearerNames : Nat → Int64) (fs_needs : Nat → Int32) (fs_likes : Nat → Int32) (fs_hates : Nat → Int32) (fs_near : Nat → Int32) (y_slides : Int32) (y_hearers : Int32) (y_nears : Int32) (y_lines : Int32) (y_pass : Int32) (y_spread : Int32) (y_lamp : Int32) (y_behind : Int32) (y_settingsTold : Int32) (yslideNames : Nat) (ypictures : Nat) (yheats : Nat) (yafter : Nat) (yhearerNames : Nat) (yneeds : Nat) (ylikes : Nat) (yhates : Nat) (ynear : Nat) (fy_slideNames : Nat → Int64) (fy_pictures : Nat → Int32) (fy_heats : Nat → Int32) (fy_after : Nat → Int32) (fy_hearerNames : Nat → Int64) (fy_needs : Nat → Int32) (fy_likes : Nat → Int32) (fy_hates : Nat → Int32) (fy_near : Nat → Int32)  : Cv l yX5_copyFrom cX5_copyFrom 2 1 0 0 G [.ref qs, .ref qy] [(qs, .inr (4, [.int s_slides, .int s_hearers, .int s_nears, .int s_lines, .int s_pass, .int s_spread, .int s_lamp, .int s_behind, .int s_settingsTold, .ref sslideNames, .ref spictures, .ref sheats, .ref safter, .ref shearerNames, .ref sneeds, .ref slikes, .ref shates, .ref snear])), (sslideNames, eJ G 6 fs_slideNames), (spictures, eI G 6 fs_pictures), (sheats, eI G 6 fs_heats), (safter, eI G 6 fs_after), (shearerNames, eJ G 8 fs_hearerNames), (sneeds, eI G 8 fs_needs), (slikes, eI G 8 fs_likes), (shates, eI G 8 fs_hates), (snear, eI G 8 fs_near), (qy, .inr (4, [.int y_slides, .int y_hearers, .int y_nears, .int y_lines, .int y_pass, .int y_spread, .int y_lamp, .int y_behind, .int y_settingsTold, .ref yslideNames, .ref ypictures, .ref yheats, .ref yafter, .ref yhearerNames, .ref yneeds, .ref ylikes, .ref yhates, .ref ynear])), (yslideNames, eJ G 6 fy_slideNames), (ypictures, eI G 6 fy_pictures), (yheats, eI G 6 fy_heats), (yafter, eI G 6 fy_after), (yhearerNames, eJ G 8 fy_hearerNames), (yneeds, eI G 8 fy_needs), (ylikes, eI G 8 fy_likes), (yhates, eI G 8 fy_hates), (ynear, eI G 8 fy_near)] (fun (u9 : va_W) => u9 = [(qs, .inr (4, [.int y_slides, .int y_hearers, .int y_nears, .int y_lines, .int y_pass, .int y_spread, .int y_lamp, .int y_behind, .int s_settingsTold, .ref sslideNames, .ref spictures, .ref sheats, .ref safter, .ref shearerNames, .ref sneeds, .ref slikes, .ref shates, .ref snear])), (sslideNames, eJ G 6 (va_cpy fy_slideNames fs_slideNames 0 0 6)), (spictures, eI G 6 (va_cpy fy_pictures fs_pictures 0 0 6)), (sheats, eI G 6 (va_cpy fy_heats fs_heats 0 0 6)), (safter, eI G 6 (va_cpy fy_after fs_after 0 0 6)), (shearerNames, eJ G 8 (va_cpy fy_hearerNames fs_hearerNames 0 0 8)), (sneeds, eI G 8 (va_cpy fy_needs fs_needs 0 0 8)), (slikes, eI G 8 (va_cpy fy_likes fs_likes 0 0 8)), (shates, eI G 8 (va_cpy fy_hates fs_hates 0 0 8)), (snear, eI G 8 (va_cpy fy_near fs_near 0 0 8)), (qy, .inr (4, [.int y_slides, .int y_hearers, .int y_nears, .int y_lines, .int y_pass, .int y_spread, .int y_lamp, .int y_behind, .int y_settingsTold, .ref yslideNames, .ref ypictures, .ref yheats, .ref yafter, .ref yhearerNames, .ref yneeds, .ref ylikes, .ref yhates, .ref ynear])), (yslideNames, eJ G 6 fy_slideNames), (ypictures, eI G 6 fy_pictures), (yheats, eI G 6 fy_heats), (yafter, eI G 6 fy_after), (yhearerNames, eJ G 8 fy_hearerNames), (yneeds, eI G 8 fy_needs), (ylikes, eI G 8 fy_likes), (yhates, eI G 8 fy_hates), (ynear, eI G 8 fy_near)]) := by
  refine Cv.of (by decide) (Nat.le_of_ble_eq_true rfl) ?_
  intro p e s m below meth c ls A B hw hl
  have C : CallFix p m c cX5_copyFrom 2 s _ gw "LanternState$Scene" := B.1
  have hl : lv_has ls 2 [(0, .ref qs), (1, .ref qy)] := hl
  refine lv_aload_n C.1 C.2.1 dX5_copyFrom_0 rfl (lv_at hl 0 rfl) ?_
  refine lv_aload_n C.1 C.2.1 dX5_copyFrom_1 rfl (lv_at hl 1 rfl) ?_
  refine x_get C hw iwX5 4 rfl 10 rfl 0 (by decide) kw147 rfl dX5_copyFrom_2 ?_
  refine x_put (w' := [(qs, .inr (4, [.int y_slides, .int s_hearers, .int s_nears, .int s_lines, .int s_pass, .int s_spread, .int s_lamp, .int s_behind, .int s_settingsTold, .ref sslideNames, .ref spictures, .ref sheats, .ref safter, .ref shearerNames, .ref sneeds, .ref slikes, .ref shates, .ref snear])), (sslideNames, eJ G 6 fs_slideNames), (spictures, eI G 6 fs_pictures), (sheats, eI G 6 fs_heats), (safter, eI G 6 fs_after), (shearerNames, eJ G 8 fs_hearerNames), (sneeds, eI G 8 fs_needs), (slikes, eI G 8 fs_likes), (shates, eI G 8 fs_hates), (snear, eI G 8 fs_near), (qy, .inr (4, [.int y_slides, .int y_hearers, .int y_nears, .int y_lines, .int y_pass, .int y_spread, .int y_lamp, .int y_behind, .int y_settingsTold, .ref yslideNames, .ref ypictures, .ref yheats, .ref yafter, .ref yhearerNames, .ref yneeds, .ref ylikes, .ref yhates, .ref ynear])), (yslideNames, eJ G 6 fy_slideNames), (ypictures, eI G 6 fy_pictures), (yheats, eI G 6 fy_heats), (yafter, eI G 6 fy_after), (yhearerNames, eJ G 8 fy_hearerNames), (yneeds, eI G 8 fy_needs), (ylikes, eI G 8 fy_likes), (yhates, eI G 8 fy_hates), (ynear, eI G 8 fy_near)]) C hw iwX5 tyX5_ok nmX5 4 rfl 0 rfl 0 (by decide) kw147 rfl rfl rfl (Nat.le_of_ble_eq_true rfl) rfl dX5_copyFrom_5 (fun H locs hw => ?_)
  refine lv_aload_n C.1 C.2.1 dX5_copyFrom_8 rfl (lv_at hl 0 rfl) ?_
  refine lv_aload_n C.1 C.2.1 dX5_copyFrom_9 rfl (lv_at hl 1 rfl) ?_
  refine x_get C hw iwX5 4 rfl 10 rfl 1 (by decide) kw152 rfl dX5_copyFrom_10 ?_
  refine x_put (w' := [(qs, .inr (4, [.int y_slides, .int y_hearers, .int s_nears, .int s_lines, .int s_pass, .int s_spread, .int s_lamp, .int s_behind, .int s_settingsTold, .ref sslideNames, .ref spictures, .ref sheats, .ref safter, .ref shearerNames, .ref sneeds, .ref slikes, .ref shates, .ref snear])), (sslideNames, eJ G 6 fs_slideNames), (spictures, eI G 6 fs_pictures), (sheats, eI G 6 fs_heats), (safter, eI G 6 fs_after), (shearerNames, eJ G 8 fs_hearerNames), (sneeds, eI G 8 fs_needs), (slikes, eI G 8 fs_likes), (shates, eI G 8 fs_hates), (snear, eI G 8 fs_near), (qy, .inr (4, [.int y_slides, .int y_hearers, .int y_nears, .int y_lines, .int y_pass, .int y_spread, .int y_lamp, .int y_behind, .int y_settingsTold, .ref yslideNames, .ref ypictures, .ref yheats, .ref yafter, .ref yhearerNames, .ref yneeds, .ref ylikes, .ref yhates, .ref ynear])), (yslideNames, eJ G 6 fy_slideNames), (ypictures, eI G 6 fy_pictures), (yheats, eI G 6 fy_heats), (yafter, eI G 6 fy_after), (yhearerNames, eJ G 8 fy_hearerNames), (yneeds, eI G 8 fy_needs), (ylikes, eI G 8 fy_likes), (yhates, eI G 8 fy_hates), (ynear, eI G 8 fy_near)]) C hw iwX5 tyX5_ok nmX5 4 rfl 0 rfl 1 (by decide) kw152 rfl rfl rfl (Nat.le_of_ble_eq_true rfl) rfl dX5_copyFrom_13 (fun H locs hw => ?_)
  refine lv_aload_n C.1 C.2.1 dX5_copyFrom_16 rfl (lv_at hl 0 rfl) ?_
  refine lv_aload_n C.1 C.2.1 dX5_copyFrom_17 rfl (lv_at hl 1 rfl) ?_
  refine x_get C hw iwX5 4 rfl 10 rfl 2 (by decide) kw156 rfl dX5_copyFrom_18 ?_
  refine x_put (w' := [(qs, .inr (4, [.int y_slides, .int y_hearers, .int y_nears, .int s_lines, .int s_pass, .int s_spread, .int s_lamp, .int s_behind, .int s_settingsTold, .ref sslideNames, .ref spictures, .ref sheats, .ref safter, .ref shearerNames, .ref sneeds, .ref slikes, .ref shates, .ref snear])), (sslideNames, eJ G 6 fs_slideNames), (spictures, eI G 6 fs_pictures), (sheats, eI G 6 fs_heats), (safter, eI G 6 fs_after), (shearerNames, eJ G 8 fs_hearerNames), (sneeds, eI G 8 fs_needs), (slikes, eI G 8 fs_likes), (shates, eI G 8 fs_hates), (snear, eI G 8 fs_near), (qy, .inr (4, [.int y_slides, .int y_hearers, .int y_nears, .int y_lines, .int y_pass, .int y_spread, .int y_lamp, .int y_behind, .int y_settingsTold, .ref yslideNames, .ref ypictures, .ref yheats, .ref yafter, .ref yhearerNames, .ref yneeds, .ref ylikes, .ref yhates, .ref ynear])), (yslideNames, eJ G 6 fy_slideNames), (ypictures, eI G 6 fy_pictures), (yheats, eI G 6 fy_heats), (yafter, eI G 6 fy_after), (yhearerNames, eJ G 8 fy_hearerNames), (yneeds, eI G 8 fy_needs), (ylikes, eI G 8 fy_likes), (yhates, eI G 8 fy_hates), (ynear, eI G 8 fy_near)]) C hw iwX5 tyX5_ok nmX5 4 rfl 0 rfl 2 (by decide) kw156 rfl rfl rfl (Nat.le_of_ble_eq_true rfl) rfl dX5_copyFrom_21 (fun H locs hw => ?_)
  refine lv_aload_n C.1 C.2.1 dX5_copyFrom_24 rfl (lv_at hl 0 rfl) ?_
  refine lv_aload_n C.1 C.2.1 dX5_copyFrom_25 rfl (lv_at hl 1 rfl) ?_
  refine x_get C hw iwX5 4 rfl 10 rfl 3 (by decide) kw158 rfl dX5_copyFrom_26 ?_
  refine x_put (w' := [(qs, .inr (4, [.int y_slides, .int y_hearers, .int y_nears, .int y_lines, .int s_pass, .int s_spread, .int s_lamp, .int s_behind, .int s_settingsTold, .ref sslideNames, .ref spictures, .ref sheats, .ref safter, .ref shearerNames, .ref sneeds, .ref slikes, .ref shates, .ref snear])), (sslideNames, eJ G 6 fs_slideNames), (spictures, eI G 6 fs_pictures), (sheats, eI G 6 fs_heats), (safter, eI G 6 fs_after), (shearerNames, eJ G 8 fs_hearerNames), (sneeds, eI G 8 fs_needs), (slikes, eI G 8 fs_likes), (shates, eI G 8 fs_hates), (snear, eI G 8 fs_near), (qy, .inr (4, [.int y_slides, .int y_hearers, .int y_nears, .int y_lines, .int y_pass, .int y_spread, .int y_lamp, .int y_behind, .int y_settingsTold, .ref yslideNames, .ref ypictures, .ref yheats, .ref yafter, .ref yhearerNames, .ref yneeds, .ref ylikes, .ref yhates, .ref ynear])), (yslideNames, eJ G 6 fy_slideNames), (ypictures, eI G 6 fy_pictures), (yheats, eI G 6 fy_heats), (yafter, eI G 6 fy_after), (yhearerNames, eJ G 8 fy_hearerNames), (yneeds, eI G 8 fy_needs), (ylikes, eI G 8 fy_likes), (yhates, eI G 8 fy_hates), (ynear, eI G 8 fy_near)]) C hw iwX5 tyX5_ok nmX5 4 rfl 0 rfl 3 (by decide) kw158 rfl rfl rfl (Nat.le_of_ble_eq_true rfl) rfl dX5_copyFrom_29 (fun H locs hw => ?_)
  refine lv_aload_n C.1 C.2.1 dX5_copyFrom_32 rfl (lv_at hl 0 rfl) ?_
  refine lv_aload_n C.1 C.2.1 dX5_copyFrom_33 rfl (lv_at hl 1 rfl) ?_
  refine x_get C hw iwX5 4 rfl 10 rfl 4 (by decide) kw160 rfl dX5_copyFrom_34 ?_
  refine x_put (w' := [(qs, .inr (4, [.int y_slides, .int y_hearers, .int y_nears, .int y_lines, .int y_pass, .int s_spread, .int s_lamp, .int s_behind, .int s_settingsTold, .ref sslideNames, .ref spictures, .ref sheats, .ref safter, .ref shearerNames, .ref sneeds, .ref slikes, .ref shates, .ref snear])), (sslideNames, eJ G 6 fs_slideNames), (spictures, eI G 6 fs_pictures), (sheats, eI G 6 fs_heats), (safter, eI G 6 fs_after), (shearerNames, eJ G 8 fs_hearerNames), (sneeds, eI G 8 fs_needs), (slikes, eI G 8 fs_likes), (shates, eI G 8 fs_hates), (snear, eI G 8 fs_near), (qy, .inr (4, [.int y_slides, .int y_hearers, .int y_nears, .int y_lines, .int y_pass, .int y_spread, .int y_lamp, .int y_behind, .int y_settingsTold, .ref yslideNames, .ref ypictures, .ref yheats, .ref yafter, .ref yhearerNames, .ref yneeds, .ref ylikes, .ref yhates, .ref ynear])), (yslideNames, eJ G 6 fy_slideNames), (ypictures, eI G 6 fy_pictures), (yheats, eI G 6 fy_heats), (yafter, eI G 6 fy_after), (yhearerNames, eJ G 8 fy_hearerNames), (yneeds, eI G 8 fy_needs), (ylikes, eI G 8 fy_likes), (yhates, eI G 8 fy_hates), (ynear, eI G 8 fy_near)]) C hw iwX5 tyX5_ok nmX5 4 rfl 0 rfl 4 (by decide) kw160 rfl rfl rfl (Nat.le_of_ble_eq_true rfl) rfl dX5_copyFrom_37 (fun H locs hw => ?_)
  refine lv_aload_n C.1 C.2.1 dX5_copyFrom_40 rfl (lv_at hl 0 rfl) ?_
  refine lv_aload_n C.1 C.2.1 dX5_copyFrom_41 rfl (lv_at hl 1 rfl) ?_
  refine x_get C hw iwX5 4 rfl 10 rfl 5 (by decide) kw162 rfl dX5_copyFrom_42 ?_
  refine x_put (w' := [(qs, .inr (4, [.int y_slides, .int y_hearers, .int y_nears, .int y_lines, .int y_pass, .int y_spread, .int s_lamp, .int s_behind, .int s_settingsTold, .ref sslideNames, .ref spictures, .ref sheats, .ref safter, .ref shearerNames, .ref sneeds, .ref slikes, .ref shates, .ref snear])), (sslideNames, eJ G 6 fs_slideNames), (spictures, eI G 6 fs_pictures), (sheats, eI G 6 fs_heats), (safter, eI G 6 fs_after), (shearerNames, eJ G 8 fs_hearerNames), (sneeds, eI G 8 fs_needs), (slikes, eI G 8 fs_likes), (shates, eI G 8 fs_hates), (snear, eI G 8 fs_near), (qy, .inr (4, [.int y_slides, .int y_hearers, .int y_nears, .int y_lines, .int y_pass, .int y_spread, .int y_lamp, .int y_behind, .int y_settingsTold, .ref yslideNames, .ref ypictures, .ref yheats, .ref yafter, .ref yhearerNames, .ref yneeds, .ref ylikes, .ref yhates, .ref ynear])), (yslideNames, eJ G 6 fy_slideNames), (ypictures, eI G 6 fy_pictures), (yheats, eI G 6 fy_heats), (yafter, eI G 6 fy_after), (yhearerNames, eJ G 8 fy_hearerNames), (yneeds, eI G 8 fy_needs), (ylikes, eI G 8 fy_likes), (yhates, eI G 8 fy_hates), (ynear, eI G 8 fy_near)]) C hw iwX5 tyX5_ok nmX5 4 rfl 0 rfl 5 (by decide) kw162 rfl rfl rfl (Nat.le_of_ble_eq_true rfl) rfl dX5_copyFrom_45 (fun H locs hw => ?_)
  refine lv_aload_n C.1 C.2.1 dX5_copyFrom_48 rfl (lv_at hl 0 rfl) ?_
  refine lv_aload_n C.1 C.2.1 dX5_copyFrom_49 rfl (lv_at hl 1 rfl) ?_
  refine x_get C hw iwX5 4 rfl 10 rfl 6 (by decide) kw164 rfl dX5_copyFrom_50 ?_
  refine x_put (w' := [(qs, .inr (4, [.int y_slides, .int y_hearers, .int y_nears, .int y_lines, .int y_pass, .int y_spread, .int y_lamp, .int s_behind, .int s_settingsTold, .ref sslideNames, .ref spictures, .ref sheats, .ref safter, .ref shearerNames, .ref sneeds, .ref slikes, .ref shates, .ref snear])), (sslideNames, eJ G 6 fs_slideNames), (spictures, eI G 6 fs_pictures), (sheats, eI G 6 fs_heats), (safter, eI G 6 fs_after), (shearerNames, eJ G 8 fs_hearerNames), (sneeds, eI G 8 fs_needs), (slikes, eI G 8 fs_likes), (shates, eI G 8 fs_hates), (snear, eI G 8 fs_near), (qy, .inr (4, [.int y_slides, .int y_hearers, .int y_nears, .int y_lines, .int y_pass, .int y_spread, .int y_lamp, .int y_behind, .int y_settingsTold, .ref yslideNames, .ref ypictures, .ref yheats, .ref yafter, .ref yhearerNames, .ref yneeds, .ref ylikes, .ref yhates, .ref ynear])), (yslideNames, eJ G 6 fy_slideNames), (ypictures, eI G 6 fy_pictures), (yheats, eI G 6 fy_heats), (yafter, eI G 6 fy_after), (yhearerNames, eJ G 8 fy_hearerNames), (yneeds, eI G 8 fy_needs), (ylikes, eI G 8 fy_likes), (yhates, eI G 8 fy_hates), (ynear, eI G 8 fy_near)]) C hw iwX5 tyX5_ok nmX5 4 rfl 0 rfl 6 (by decide) kw164 rfl rfl rfl (Nat.le_of_ble_eq_true rfl) rfl dX5_copyFrom_53 (fun H locs hw => ?_)
  refine lv_aload_n C.1 C.2.1 dX5_copyFrom_56 rfl (lv_at hl 0 rfl) ?_
  refine lv_aload_n C.1 C.2.1 dX5_copyFrom_57 rfl (lv_at hl 1 rfl) ?_
  refine x_get C hw iwX5 4 rfl 10 rfl 7 (by decide) kw169 rfl dX5_copyFrom_58 ?_
  refine x_put (w' := [(qs, .inr (4, [.int y_slides, .int y_hearers, .int y_nears, .int y_lines, .int y_pass, .int y_spread, .int y_lamp, .int y_behind, .int s_settingsTold, .ref sslideNames, .ref spictures, .ref sheats, .ref safter, .ref shearerNames, .ref sneeds, .ref slikes, .ref shates, .ref snear])), (sslideNames, eJ G 6 fs_slideNames), (spictures, eI G 6 fs_pictures), (sheats, eI G 6 fs_heats), (safter, eI G 6 fs_after), (shearerNames, eJ G 8 fs_hearerNames), (sneeds, eI G 8 fs_needs), (slikes, eI G 8 fs_likes), (shates, eI G 8 fs_hates), (snear, eI G 8 fs_near), (qy, .inr (4, [.int y_slides, .int y_hearers, .int y_nears, .int y_lines, .int y_pass, .int y_spread, .int y_lamp, .int y_behind, .int y_settingsTold, .ref yslideNames, .ref ypictures, .ref yheats, .ref yafter, .ref yhearerNames, .ref yneeds, .ref ylikes, .ref yhates, .ref ynear])), (yslideNames, eJ G 6 fy_slideNames), (ypictures, eI G 6 fy_pictures), (yheats, eI G 6 fy_heats), (yafter, eI G 6 fy_after), (yhearerNames, eJ G 8 fy_hearerNames), (yneeds, eI G 8 fy_needs), (ylikes, eI G 8 fy_likes), (yhates, eI G 8 fy_hates), (ynear, eI G 8 fy_near)]) C hw iwX5 tyX5_ok nmX5 4 rfl 0 rfl 7 (by decide) kw169 rfl rfl rfl (Nat.le_of_ble_eq_true rfl) rfl dX5_copyFrom_61 (fun H locs hw => ?_)
  refine lv_aload_n C.1 C.2.1 dX5_copyFrom_64 rfl (lv_at hl 1 rfl) ?_
  refine x_get C hw iwX5 4 rfl 10 rfl 9 (by decide) kw171 rfl dX5_copyFrom_65 ?_
  refine lv_iconst (v := 0) C.1 C.2.1 dX5_copyFrom_68 (by decide) ?_
  refine lv_aload_n C.1 C.2.1 dX5_copyFrom_69 rfl (lv_at hl 0 rfl) ?_
  refine x_get C hw iwX5 4 rfl 0 rfl 9 (by decide) kw171 rfl dX5_copyFrom_70 ?_
  refine lv_iconst (v := 0) C.1 C.2.1 dX5_copyFrom_73 (by decide) ?_
  refine lv_bipush (v := 6) C.1 C.2.1 dX5_copyFrom_74 (by decide) ?_
  refine x_copyl (g' := (va_cpy fy_slideNames fs_slideNames 0 0 6)) (w' := [(qs, .inr (4, [.int y_slides, .int y_hearers, .int y_nears, .int y_lines, .int y_pass, .int y_spread, .int y_lamp, .int y_behind, .int s_settingsTold, .ref sslideNames, .ref spictures, .ref sheats, .ref safter, .ref shearerNames, .ref sneeds, .ref slikes, .ref shates, .ref snear])), (sslideNames, eJ G 6 (va_cpy fy_slideNames fs_slideNames 0 0 6)), (spictures, eI G 6 fs_pictures), (sheats, eI G 6 fs_heats), (safter, eI G 6 fs_after), (shearerNames, eJ G 8 fs_hearerNames), (sneeds, eI G 8 fs_needs), (slikes, eI G 8 fs_likes), (shates, eI G 8 fs_hates), (snear, eI G 8 fs_near), (qy, .inr (4, [.int y_slides, .int y_hearers, .int y_nears, .int y_lines, .int y_pass, .int y_spread, .int y_lamp, .int y_behind, .int y_settingsTold, .ref yslideNames, .ref ypictures, .ref yheats, .ref yafter, .ref yhearerNames, .ref yneeds, .ref ylikes, .ref yhates, .ref ynear])), (yslideNames, eJ G 6 fy_slideNames), (ypictures, eI G 6 fy_pictures), (yheats, eI G 6 fy_heats), (yafter, eI G 6 fy_after), (yhearerNames, eJ G 8 fy_hearerNames), (yneeds, eI G 8 fy_needs), (ylikes, eI G 8 fy_likes), (yhates, eI G 8 fy_hates), (ynear, eI G 8 fy_near)]) C hw kw630 hl.1 11 1 rfl rfl (by decide) (by decide) (by decide) (Nat.le_of_ble_eq_true rfl) (Nat.le_of_ble_eq_true rfl) rfl rfl (Nat.le_of_ble_eq_true rfl) (Nat.le_of_ble_eq_true rfl) dX5_copyFrom_76 (fun H locs hw => ?_)
  refine lv_aload_n C.1 C.2.1 dX5_copyFrom_79 rfl (lv_at hl 1 rfl) ?_
  refine x_get C hw iwX5 4 rfl 10 rfl 10 (by decide) kw173 rfl dX5_copyFrom_80 ?_
  refine lv_iconst (v := 0) C.1 C.2.1 dX5_copyFrom_83 (by decide) ?_
  refine lv_aload_n C.1 C.2.1 dX5_copyFrom_84 rfl (lv_at hl 0 rfl) ?_
  refine x_get C hw iwX5 4 rfl 0 rfl 10 (by decide) kw173 rfl dX5_copyFrom_85 ?_
  refine lv_iconst (v := 0) C.1 C.2.1 dX5_copyFrom_88 (by decide) ?_
  refine lv_bipush (v := 6) C.1 C.2.1 dX5_copyFrom_89 (by decide) ?_
  refine x_copyi (g' := (va_cpy fy_pictures fs_pictures 0 0 6)) (w' := [(qs, .inr (4, [.int y_slides, .int y_hearers, .int y_nears, .int y_lines, .int y_pass, .int y_spread, .int y_lamp, .int y_behind, .int s_settingsTold, .ref sslideNames, .ref spictures, .ref sheats, .ref safter, .ref shearerNames, .ref sneeds, .ref slikes, .ref shates, .ref snear])), (sslideNames, eJ G 6 (va_cpy fy_slideNames fs_slideNames 0 0 6)), (spictures, eI G 6 (va_cpy fy_pictures fs_pictures 0 0 6)), (sheats, eI G 6 fs_heats), (safter, eI G 6 fs_after), (shearerNames, eJ G 8 fs_hearerNames), (sneeds, eI G 8 fs_needs), (slikes, eI G 8 fs_likes), (shates, eI G 8 fs_hates), (snear, eI G 8 fs_near), (qy, .inr (4, [.int y_slides, .int y_hearers, .int y_nears, .int y_lines, .int y_pass, .int y_spread, .int y_lamp, .int y_behind, .int y_settingsTold, .ref yslideNames, .ref ypictures, .ref yheats, .ref yafter, .ref yhearerNames, .ref yneeds, .ref ylikes, .ref yhates, .ref ynear])), (yslideNames, eJ G 6 fy_slideNames), (ypictures, eI G 6 fy_pictures), (yheats, eI G 6 fy_heats), (yafter, eI G 6 fy_after), (yhearerNames, eJ G 8 fy_hearerNames), (yneeds, eI G 8 fy_needs), (ylikes, eI G 8 fy_likes), (yhates, eI G 8 fy_hates), (ynear, eI G 8 fy_near)]) C hw kw630 hl.1 12 2 rfl rfl (by decide) (by decide) (by decide) (Nat.le_of_ble_eq_true rfl) (Nat.le_of_ble_eq_true rfl) rfl rfl (Nat.le_of_ble_eq_true rfl) (Nat.le_of_ble_eq_true rfl) dX5_copyFrom_91 (fun H locs hw => ?_)
  refine lv_aload_n C.1 C.2.1 dX5_copyFrom_94 rfl (lv_at hl 1 rfl) ?_
  refine x_get C hw iwX5 4 rfl 10 rfl 11 (by decide) kw175 rfl dX5_copyFrom_95 ?_
  refine lv_iconst (v := 0) C.1 C.2.1 dX5_copyFrom_98 (by decide) ?_
  refine lv_aload_n C.1 C.2.1 dX5_copyFrom_99 rfl (lv_at hl 0 rfl) ?_
  refine x_get C hw iwX5 4 rfl 0 rfl 11 (by decide) kw175 rfl dX5_copyFrom_100 ?_
  refine lv_iconst (v := 0) C.1 C.2.1 dX5_copyFrom_103 (by decide) ?_
  refine lv_bipush (v := 6) C.1 C.2.1 dX5_copyFrom_104 (by decide) ?_
  refine x_copyi (g' := (va_cpy fy_heats fs_heats 0 0 6)) (w' := [(qs, .inr (4, [.int y_slides, .int y_hearers, .int y_nears, .int y_lines, .int y_pass, .int y_spread, .int y_lamp, .int y_behind, .int s_settingsTold, .ref sslideNames, .ref spictures, .ref sheats, .ref safter, .ref shearerNames, .ref sneeds, .ref slikes, .ref shates, .ref snear])), (sslideNames, eJ G 6 (va_cpy fy_slideNames fs_slideNames 0 0 6)), (spictures, eI G 6 (va_cpy fy_pictures fs_pictures 0 0 6)), (sheats, eI G 6 (va_cpy fy_heats fs_heats 0 0 6)), (safter, eI G 6 fs_after), (shearerNames, eJ G 8 fs_hearerNames), (sneeds, eI G 8 fs_needs), (slikes, eI G 8 fs_likes), (shates, eI G 8 fs_hates), (snear, eI G 8 fs_near), (qy, .inr (4, [.int y_slides, .int y_hearers, .int y_nears, .int y_lines, .int y_pass, .int y_spread, .int y_lamp, .int y_behind, .int y_settingsTold, .ref yslideNames, .ref ypictures, .ref yheats, .ref yafter, .ref yhearerNames, .ref yneeds, .ref ylikes, .ref yhates, .ref ynear])), (yslideNames, eJ G 6 fy_slideNames), (ypictures, eI G 6 fy_pictures), (yheats, eI G 6 fy_heats), (yafter, eI G 6 fy_after), (yhearerNames, eJ G 8 fy_hearerNames), (yneeds, eI G 8 fy_needs), (ylikes, eI G 8 fy_likes), (yhates, eI G 8 fy_hates), (ynear, eI G 8 fy_near)]) C hw kw630 hl.1 13 3 rfl rfl (by decide) (by decide) (by decide) (Nat.le_of_ble_eq_true rfl) (Nat.le_of_ble_eq_true rfl) rfl rfl (Nat.le_of_ble_eq_true rfl) (Nat.le_of_ble_eq_true rfl) dX5_copyFrom_106 (fun H locs hw => ?_)
  refine lv_aload_n C.1 C.2.1 dX5_copyFrom_109 rfl (lv_at hl 1 rfl) ?_
  refine x_get C hw iwX5 4 rfl 10 rfl 12 (by decide) kw180 rfl dX5_copyFrom_110 ?_
  refine lv_iconst (v := 0) C.1 C.2.1 dX5_copyFrom_113 (by decide) ?_
  refine lv_aload_n C.1 C.2.1 dX5_copyFrom_114 rfl (lv_at hl 0 rfl) ?_
  refine x_get C hw iwX5 4 rfl 0 rfl 12 (by decide) kw180 rfl dX5_copyFrom_115 ?_
  refine lv_iconst (v := 0) C.1 C.2.1 dX5_copyFrom_118 (by decide) ?_
  refine lv_bipush (v := 6) C.1 C.2.1 dX5_copyFrom_119 (by decide) ?_
  refine x_copyi (g' := (va_cpy fy_after fs_after 0 0 6)) (w' := [(qs, .inr (4, [.int y_slides, .int y_hearers, .int y_nears, .int y_lines, .int y_pass, .int y_spread, .int y_lamp, .int y_behind, .int s_settingsTold, .ref sslideNames, .ref spictures, .ref sheats, .ref safter, .ref shearerNames, .ref sneeds, .ref slikes, .ref shates, .ref snear])), (sslideNames, eJ G 6 (va_cpy fy_slideNames fs_slideNames 0 0 6)), (spictures, eI G 6 (va_cpy fy_pictures fs_pictures 0 0 6)), (sheats, eI G 6 (va_cpy fy_heats fs_heats 0 0 6)), (safter, eI G 6 (va_cpy fy_after fs_after 0 0 6)), (shearerNames, eJ G 8 fs_hearerNames), (sneeds, eI G 8 fs_needs), (slikes, eI G 8 fs_likes), (shates, eI G 8 fs_hates), (snear, eI G 8 fs_near), (qy, .inr (4, [.int y_slides, .int y_hearers, .int y_nears, .int y_lines, .int y_pass, .int y_spread, .int y_lamp, .int y_behind, .int y_settingsTold, .ref yslideNames, .ref ypictures, .ref yheats, .ref yafter, .ref yhearerNames, .ref yneeds, .ref ylikes, .ref yhates, .ref ynear])), (yslideNames, eJ G 6 fy_slideNames), (ypictures, eI G 6 fy_pictures), (yheats, eI G 6 fy_heats), (yafter, eI G 6 fy_after), (yhearerNames, eJ G 8 fy_hearerNames), (yneeds, eI G 8 fy_needs), (ylikes, eI G 8 fy_likes), (yhates, eI G 8 fy_hates), (ynear, eI G 8 fy_near)]) C hw kw630 hl.1 14 4 rfl rfl (by decide) (by decide) (by decide) (Nat.le_of_ble_eq_true rfl) (Nat.le_of_ble_eq_true rfl) rfl rfl (Nat.le_of_ble_eq_true rfl) (Nat.le_of_ble_eq_true rfl) dX5_copyFrom_121 (fun H locs hw => ?_)
  refine lv_aload_n C.1 C.2.1 dX5_copyFrom_124 rfl (lv_at hl 1 rfl) ?_
  refine x_get C hw iwX5 4 rfl 10 rfl 13 (by decide) kw184 rfl dX5_copyFrom_125 ?_
  refine lv_iconst (v := 0) C.1 C.2.1 dX5_copyFrom_128 (by decide) ?_
  refine lv_aload_n C.1 C.2.1 dX5_copyFrom_129 rfl (lv_at hl 0 rfl) ?_
  refine x_get C hw iwX5 4 rfl 0 rfl 13 (by decide) kw184 rfl dX5_copyFrom_130 ?_
  refine lv_iconst (v := 0) C.1 C.2.1 dX5_copyFrom_133 (by decide) ?_
  refine lv_bipush (v := 8) C.1 C.2.1 dX5_copyFrom_134 (by decide) ?_
  refine x_copyl (g' := (va_cpy fy_hearerNames fs_hearerNames 0 0 8)) (w' := [(qs, .inr (4, [.int y_slides, .int y_hearers, .int y_nears, .int y_lines, .int y_pass, .int y_spread, .int y_lamp, .int y_behind, .int s_settingsTold, .ref sslideNames, .ref spictures, .ref sheats, .ref safter, .ref shearerNames, .ref sneeds, .ref slikes, .ref shates, .ref snear])), (sslideNames, eJ G 6 (va_cpy fy_slideNames fs_slideNames 0 0 6)), (spictures, eI G 6 (va_cpy fy_pictures fs_pictures 0 0 6)), (sheats, eI G 6 (va_cpy fy_heats fs_heats 0 0 6)), (safter, eI G 6 (va_cpy fy_after fs_after 0 0 6)), (shearerNames, eJ G 8 (va_cpy fy_hearerNames fs_hearerNames 0 0 8)), (sneeds, eI G 8 fs_needs), (slikes, eI G 8 fs_likes), (shates, eI G 8 fs_hates), (snear, eI G 8 fs_near), (qy, .inr (4, [.int y_slides, .int y_hearers, .int y_nears, .int y_lines, .int y_pass, .int y_spread, .int y_lamp, .int y_behind, .int y_settingsTold, .ref yslideNames, .ref ypictures, .ref yheats, .ref yafter, .ref yhearerNames, .ref yneeds, .ref ylikes, .ref yhates, .ref ynear])), (yslideNames, eJ G 6 fy_slideNames), (ypictures, eI G 6 fy_pictures), (yheats, eI G 6 fy_heats), (yafter, eI G 6 fy_after), (yhearerNames, eJ G 8 fy_hearerNames), (yneeds, eI G 8 fy_needs), (ylikes, eI G 8 fy_likes), (yhates, eI G 8 fy_hates), (ynear, eI G 8 fy_near)]) C hw kw630 hl.1 15 5 rfl rfl (by decide) (by decide) (by decide) (Nat.le_of_ble_eq_true rfl) (Nat.le_of_ble_eq_true rfl) rfl rfl (Nat.le_of_ble_eq_true rfl) (Nat.le_of_ble_eq_true rfl) dX5_copyFrom_136 (fun H locs hw => ?_)
  refine lv_aload_n C.1 C.2.1 dX5_copyFrom_139 rfl (lv_at hl 1 rfl) ?_
  refine x_get C hw iwX5 4 rfl 10 rfl 14 (by decide) kw185 rfl dX5_copyFrom_140 ?_
  refine lv_iconst (v := 0) C.1 C.2.1 dX5_copyFrom_143 (by decide) ?_
  refine lv_aload_n C.1 C.2.1 dX5_copyFrom_144 rfl (lv_at hl 0 rfl) ?_
  refine x_get C hw iwX5 4 rfl 0 rfl 14 (by decide) kw185 rfl dX5_copyFrom_145 ?_
  refine lv_iconst (v := 0) C.1 C.2.1 dX5_copyFrom_148 (by decide) ?_
  refine lv_bipush (v := 8) C.1 C.2.1 dX5_copyFrom_149 (by decide) ?_
  refine x_copyi (g' := (va_cpy fy_needs fs_needs 0 0 8)) (w' := [(qs, .inr (4, [.int y_slides, .int y_hearers, .int y_nears, .int y_lines, .int y_pass, .int y_spread, .int y_lamp, .int y_behind, .int s_settingsTold, .ref sslideNames, .ref spictures, .ref sheats, .ref safter, .ref shearerNames, .ref sneeds, .ref slikes, .ref shates, .ref snear])), (sslideNames, eJ G 6 (va_cpy fy_slideNames fs_slideNames 0 0 6)), (spictures, eI G 6 (va_cpy fy_pictures fs_pictures 0 0 6)), (sheats, eI G 6 (va_cpy fy_heats fs_heats 0 0 6)), (safter, eI G 6 (va_cpy fy_after fs_after 0 0 6)), (shearerNames, eJ G 8 (va_cpy fy_hearerNames fs_hearerNames 0 0 8)), (sneeds, eI G 8 (va_cpy fy_needs fs_needs 0 0 8)), (slikes, eI G 8 fs_likes), (shates, eI G 8 fs_hates), (snear, eI G 8 fs_near), (qy, .inr (4, [.int y_slides, .int y_hearers, .int y_nears, .int y_lines, .int y_pass, .int y_spread, .int y_lamp, .int y_behind, .int y_settingsTold, .ref yslideNames, .ref ypictures, .ref yheats, .ref yafter, .ref yhearerNames, .ref yneeds, .ref ylikes, .ref yhates, .ref ynear])), (yslideNames, eJ G 6 fy_slideNames), (ypictures, eI G 6 fy_pictures), (yheats, eI G 6 fy_heats), (yafter, eI G 6 fy_after), (yhearerNames, eJ G 8 fy_hearerNames), (yneeds, eI G 8 fy_needs), (ylikes, eI G 8 fy_likes), (yhates, eI G 8 fy_hates), (ynear, eI G 8 fy_near)]) C hw kw630 hl.1 16 6 rfl rfl (by decide) (by decide) (by decide) (Nat.le_of_ble_eq_true rfl) (Nat.le_of_ble_eq_true rfl) rfl rfl (Nat.le_of_ble_eq_true rfl) (Nat.le_of_ble_eq_true rfl) dX5_copyFrom_151 (fun H locs hw => ?_)
  refine lv_aload_n C.1 C.2.1 dX5_copyFrom_154 rfl (lv_at hl 1 rfl) ?_
  refine x_get C hw iwX5 4 rfl 10 rfl 15 (by decide) kw187 rfl dX5_copyFrom_155 ?_
  refine lv_iconst (v := 0) C.1 C.2.1 dX5_copyFrom_158 (by decide) ?_
  refine lv_aload_n C.1 C.2.1 dX5_copyFrom_159 rfl (lv_at hl 0 rfl) ?_
  refine x_get C hw iwX5 4 rfl 0 rfl 15 (by decide) kw187 rfl dX5_copyFrom_160 ?_
  refine lv_iconst (v := 0) C.1 C.2.1 dX5_copyFrom_163 (by decide) ?_
  refine lv_bipush (v := 8) C.1 C.2.1 dX5_copyFrom_164 (by decide) ?_
  refine x_copyi (g' := (va_cpy fy_likes fs_likes 0 0 8)) (w' := [(qs, .inr (4, [.int y_slides, .int y_hearers, .int y_nears, .int y_lines, .int y_pass, .int y_spread, .int y_lamp, .int y_behind, .int s_settingsTold, .ref sslideNames, .ref spictures, .ref sheats, .ref safter, .ref shearerNames, .ref sneeds, .ref slikes, .ref shates, .ref snear])), (sslideNames, eJ G 6 (va_cpy fy_slideNames fs_slideNames 0 0 6)), (spictures, eI G 6 (va_cpy fy_pictures fs_pictures 0 0 6)), (sheats, eI G 6 (va_cpy fy_heats fs_heats 0 0 6)), (safter, eI G 6 (va_cpy fy_after fs_after 0 0 6)), (shearerNames, eJ G 8 (va_cpy fy_hearerNames fs_hearerNames 0 0 8)), (sneeds, eI G 8 (va_cpy fy_needs fs_needs 0 0 8)), (slikes, eI G 8 (va_cpy fy_likes fs_likes 0 0 8)), (shates, eI G 8 fs_hates), (snear, eI G 8 fs_near), (qy, .inr (4, [.int y_slides, .int y_hearers, .int y_nears, .int y_lines, .int y_pass, .int y_spread, .int y_lamp, .int y_behind, .int y_settingsTold, .ref yslideNames, .ref ypictures, .ref yheats, .ref yafter, .ref yhearerNames, .ref yneeds, .ref ylikes, .ref yhates, .ref ynear])), (yslideNames, eJ G 6 fy_slideNames), (ypictures, eI G 6 fy_pictures), (yheats, eI G 6 fy_heats), (yafter, eI G 6 fy_after), (yhearerNames, eJ G 8 fy_hearerNames), (yneeds, eI G 8 fy_needs), (ylikes, eI G 8 fy_likes), (yhates, eI G 8 fy_hates), (ynear, eI G 8 fy_near)]) C hw kw630 hl.1 17 7 rfl rfl (by decide) (by decide) (by decide) (Nat.le_of_ble_eq_true rfl) (Nat.le_of_ble_eq_true rfl) rfl rfl (Nat.le_of_ble_eq_true rfl) (Nat.le_of_ble_eq_true rfl) dX5_copyFrom_166 (fun H locs hw => ?_)
  refine lv_aload_n C.1 C.2.1 dX5_copyFrom_169 rfl (lv_at hl 1 rfl) ?_
  refine x_get C hw iwX5 4 rfl 10 rfl 16 (by decide) kw189 rfl dX5_copyFrom_170 ?_
  refine lv_iconst (v := 0) C.1 C.2.1 dX5_copyFrom_173 (by decide) ?_
  refine lv_aload_n C.1 C.2.1 dX5_copyFrom_174 rfl (lv_at hl 0 rfl) ?_
  refine x_get C hw iwX5 4 rfl 0 rfl 16 (by decide) kw189 rfl dX5_copyFrom_175 ?_
  refine lv_iconst (v := 0) C.1 C.2.1 dX5_copyFrom_178 (by decide) ?_
  refine lv_bipush (v := 8) C.1 C.2.1 dX5_copyFrom_179 (by decide) ?_
  refine x_copyi (g' := (va_cpy fy_hates fs_hates 0 0 8)) (w' := [(qs, .inr (4, [.int y_slides, .int y_hearers, .int y_nears, .int y_lines, .int y_pass, .int y_spread, .int y_lamp, .int y_behind, .int s_settingsTold, .ref sslideNames, .ref spictures, .ref sheats, .ref safter, .ref shearerNames, .ref sneeds, .ref slikes, .ref shates, .ref snear])), (sslideNames, eJ G 6 (va_cpy fy_slideNames fs_slideNames 0 0 6)), (spictures, eI G 6 (va_cpy fy_pictures fs_pictures 0 0 6)), (sheats, eI G 6 (va_cpy fy_heats fs_heats 0 0 6)), (safter, eI G 6 (va_cpy fy_after fs_after 0 0 6)), (shearerNames, eJ G 8 (va_cpy fy_hearerNames fs_hearerNames 0 0 8)), (sneeds, eI G 8 (va_cpy fy_needs fs_needs 0 0 8)), (slikes, eI G 8 (va_cpy fy_likes fs_likes 0 0 8)), (shates, eI G 8 (va_cpy fy_hates fs_hates 0 0 8)), (snear, eI G 8 fs_near), (qy, .inr (4, [.int y_slides, .int y_hearers, .int y_nears, .int y_lines, .int y_pass, .int y_spread, .int y_lamp, .int y_behind, .int y_settingsTold, .ref yslideNames, .ref ypictures, .ref yheats, .ref yafter, .ref yhearerNames, .ref yneeds, .ref ylikes, .ref yhates, .ref ynear])), (yslideNames, eJ G 6 fy_slideNames), (ypictures, eI G 6 fy_pictures), (yheats, eI G 6 fy_heats), (yafter, eI G 6 fy_after), (yhearerNames, eJ G 8 fy_hearerNames), (yneeds, eI G 8 fy_needs), (ylikes, eI G 8 fy_likes), (yhates, eI G 8 fy_hates), (ynear, eI G 8 fy_near)]) C hw kw630 hl.1 18 8 rfl rfl (by decide) (by decide) (by decide) (Nat.le_of_ble_eq_true rfl) (Nat.le_of_ble_eq_true rfl) rfl rfl (Nat.le_of_ble_eq_true rfl) (Nat.le_of_ble_eq_true rfl) dX5_copyFrom_181 (fun H locs hw => ?_)
  refine lv_aload_n C.1 C.2.1 dX5_copyFrom_184 rfl (lv_at hl 1 rfl) ?_
  refine x_get C hw iwX5 4 rfl 10 rfl 17 (by decide) kw191 rfl dX5_copyFrom_185 ?_
  refine lv_iconst (v := 0) C.1 C.2.1 dX5_copyFrom_188 (by decide) ?_
  refine lv_aload_n C.1 C.2.1 dX5_copyFrom_189 rfl (lv_at hl 0 rfl) ?_
  refine x_get C hw iwX5 4 rfl 0 rfl 17 (by decide) kw191 rfl dX5_copyFrom_190 ?_
  refine lv_iconst (v := 0) C.1 C.2.1 dX5_copyFrom_193 (by decide) ?_
  refine lv_bipush (v := 8) C.1 C.2.1 dX5_copyFrom_194 (by decide) ?_
  refine x_copyi (g' := (va_cpy fy_near fs_near 0 0 8)) (w' := [(qs, .inr (4, [.int y_slides, .int y_hearers, .int y_nears, .int y_lines, .int y_pass, .int y_spread, .int y_lamp, .int y_behind, .int s_settingsTold, .ref sslideNames, .ref spictures, .ref sheats, .ref safter, .ref shearerNames, .ref sneeds, .ref slikes, .ref shates, .ref snear])), (sslideNames, eJ G 6 (va_cpy fy_slideNames fs_slideNames 0 0 6)), (spictures, eI G 6 (va_cpy fy_pictures fs_pictures 0 0 6)), (sheats, eI G 6 (va_cpy fy_heats fs_heats 0 0 6)), (safter, eI G 6 (va_cpy fy_after fs_after 0 0 6)), (shearerNames, eJ G 8 (va_cpy fy_hearerNames fs_hearerNames 0 0 8)), (sneeds, eI G 8 (va_cpy fy_needs fs_needs 0 0 8)), (slikes, eI G 8 (va_cpy fy_likes fs_likes 0 0 8)), (shates, eI G 8 (va_cpy fy_hates fs_hates 0 0 8)), (snear, eI G 8 (va_cpy fy_near fs_near 0 0 8)), (qy, .inr (4, [.int y_slides, .int y_hearers, .int y_nears, .int y_lines, .int y_pass, .int y_spread, .int y_lamp, .int y_behind, .int y_settingsTold, .ref yslideNames, .ref ypictures, .ref yheats, .ref yafter, .ref yhearerNames, .ref yneeds, .ref ylikes, .ref yhates, .ref ynear])), (yslideNames, eJ G 6 fy_slideNames), (ypictures, eI G 6 fy_pictures), (yheats, eI G 6 fy_heats), (yafter, eI G 6 fy_after), (yhearerNames, eJ G 8 fy_hearerNames), (yneeds, eI G 8 fy_needs), (ylikes, eI G 8 fy_likes), (yhates, eI G 8 fy_hates), (ynear, eI G 8 fy_near)]) C hw kw630 hl.1 19 9 rfl rfl (by decide) (by decide) (by decide) (Nat.le_of_ble_eq_true rfl) (Nat.le_of_ble_eq_true rfl) rfl rfl (Nat.le_of_ble_eq_true rfl) (Nat.le_of_ble_eq_true rfl) dX5_copyFrom_196 (fun H locs hw => ?_)
  exact x_retv B hw rfl (Nat.le_of_ble_eq_true rfl) (Nat.le_of_ble_eq_true rfl) dX5_copyFrom_199
theorem dX7_copyFrom_0 : decode cX7_copyFrom 0 = .ok (.aload_n 0, 1) := by decide +kernel
theorem dX7_copyFrom_1 : decode cX7_copyFrom 1 = .ok (.aload_n 1, 1) := by decide +kernel
theorem dX7_copyFrom_2 : decode cX7_copyFrom 2 = .ok (.getfield 24, 3) := by decide +kernel
theorem dX7_copyFrom_5 : decode cX7_copyFrom 5 = .ok (.putfield 24, 3) := by decide +kernel
theorem dX7_copyFrom_8 : decode cX7_copyFrom 8 = .ok (.aload_n 0, 1) := by decide +kernel
theorem dX7_copyFrom_9 : decode cX7_copyFrom 9 = .ok (.aload_n 1, 1) := by decide +kernel
theorem dX7_copyFrom_10 : decode cX7_copyFrom 10 = .ok (.getfield 28, 3) := by decide +kernel
theorem dX7_copyFrom_13 : decode cX7_copyFrom 13 = .ok (.putfield 28, 3) := by decide +kernel
theorem dX7_copyFrom_16 : decode cX7_copyFrom 16 = .ok (.aload_n 0, 1) := by decide +kernel
theorem dX7_copyFrom_17 : decode cX7_copyFrom 17 = .ok (.aload_n 1, 1) := by decide +kernel
theorem dX7_copyFrom_18 : decode cX7_copyFrom 18 = .ok (.getfield 32, 3) := by decide +kernel
theorem dX7_copyFrom_21 : decode cX7_copyFrom 21 = .ok (.putfield 32, 3) := by decide +kernel
theorem dX7_copyFrom_24 : decode cX7_copyFrom 24 = .ok (.aload_n 1, 1) := by decide +kernel
theorem dX7_copyFrom_25 : decode cX7_copyFrom 25 = .ok (.getfield 11, 3) := by decide +kernel
theorem dX7_copyFrom_28 : decode cX7_copyFrom 28 = .ok (.iconst 0, 1) := by decide +kernel
theorem dX7_copyFrom_29 : decode cX7_copyFrom 29 = .ok (.aload_n 0, 1) := by decide +kernel
theorem dX7_copyFrom_30 : decode cX7_copyFrom 30 = .ok (.getfield 11, 3) := by decide +kernel
theorem dX7_copyFrom_33 : decode cX7_copyFrom 33 = .ok (.iconst 0, 1) := by decide +kernel
theorem dX7_copyFrom_34 : decode cX7_copyFrom 34 = .ok (.bipush 40, 2) := by decide +kernel
theorem dX7_copyFrom_36 : decode cX7_copyFrom 36 = .ok (.invokestatic 35, 3) := by decide +kernel
theorem dX7_copyFrom_39 : decode cX7_copyFrom 39 = .ok (.aload_n 1, 1) := by decide +kernel
theorem dX7_copyFrom_40 : decode cX7_copyFrom 40 = .ok (.getfield 15, 3) := by decide +kernel
theorem dX7_copyFrom_43 : decode cX7_copyFrom 43 = .ok (.iconst 0, 1) := by decide +kernel
theorem dX7_copyFrom_44 : decode cX7_copyFrom 44 = .ok (.aload_n 0, 1) := by decide +kernel
theorem dX7_copyFrom_45 : decode cX7_copyFrom 45 = .ok (.getfield 15, 3) := by decide +kernel
theorem dX7_copyFrom_48 : decode cX7_copyFrom 48 = .ok (.iconst 0, 1) := by decide +kernel
theorem dX7_copyFrom_49 : decode cX7_copyFrom 49 = .ok (.bipush 40, 2) := by decide +kernel
theorem dX7_copyFrom_51 : decode cX7_copyFrom 51 = .ok (.invokestatic 35, 3) := by decide +kernel
theorem dX7_copyFrom_54 : decode cX7_copyFrom 54 = .ok (.aload_n 1, 1) := by decide +kernel
theorem dX7_copyFrom_55 : decode cX7_copyFrom 55 = .ok (.getfield 18, 3) := by decide +kernel
theorem dX7_copyFrom_58 : decode cX7_copyFrom 58 = .ok (.iconst 0, 1) := by decide +kernel
theorem dX7_copyFrom_59 : decode cX7_copyFrom 59 = .ok (.aload_n 0, 1) := by decide +kernel
theorem dX7_copyFrom_60 : decode cX7_copyFrom 60 = .ok (.getfield 18, 3) := by decide +kernel
theorem dX7_copyFrom_63 : decode cX7_copyFrom 63 = .ok (.iconst 0, 1) := by decide +kernel
theorem dX7_copyFrom_64 : decode cX7_copyFrom 64 = .ok (.bipush 40, 2) := by decide +kernel
theorem dX7_copyFrom_66 : decode cX7_copyFrom 66 = .ok (.invokestatic 35, 3) := by decide +kernel
theorem dX7_copyFrom_69 : decode cX7_copyFrom 69 = .ok (.return_, 1) := by decide +kernel
-- Sentence.copyFrom
set_option maxHeartbeats 4000000 in
set_option maxRecDepth 100000 in
theorem c_X7_copyFrom {l : Launch} {G : Gc} (qr : Nat) (qv : Nat) (r_there : Int32) (r_ones : Int32) (r_parts : Int32) (rkeys : Nat) (rsigns : Nat) (rnumbers : Nat) (rstack : Nat) (fr_keys : Nat → Int32) (fr_signs : Nat → Int32) (fr_numbers : Nat → Int32) (fr_stack : Nat → Int32) (v_there : Int32) (v_ones : Int32) (v_parts : Int32) (vkeys : Nat) (vsigns : Nat) (vnumbers : Nat) (vstack : Nat) (fv_keys : Nat → Int32) (fv_signs : Nat → Int32) (fv_numbers : Nat → Int32) (fv_stack : Nat → Int32) (hv_there : isB v_there) : Cv l yX7_copyFrom cX7_copyFrom 2 1 0 0 G [.ref qr, .ref qv] [(qr, .inr (6, [.int r_there, .int r_ones, .int r_parts, .ref rkeys, .ref rsigns, .ref rnumbers, .ref rstack])), (rkeys, eI G 40 fr_keys), (rsigns, eI G 40 fr_signs), (rnumbers, eI G 40 fr_numbers), (rstack, eI G 40 fr_stack), (qv, .inr (6, [.int v_there, .int v_ones, .int v_parts, .ref vkeys, .ref vsigns, .ref vnumbers, .ref vstack])), (vkeys, eI G 40 fv_keys), (vsigns, eI G 40 fv_signs), (vnumbers, eI G 40 fv_numbers), (vstack, eI G 40 fv_stack)] (fun (u9 : va_W) => u9 = [(qr, .inr (6, [.int v_there, .int v_ones, .int v_parts, .ref rkeys, .ref rsigns, .ref rnumbers, .ref rstack])), (rkeys, eI G 40 (va_cpy fv_keys fr_keys 0 0 40)), (rsigns, eI G 40 (va_cpy fv_signs fr_signs 0 0 40)), (rnumbers, eI G 40 (va_cpy fv_numbers fr_numbers 0 0 40)), (rstack, eI G 40 fr_stack), (qv, .inr (6, [.int v_there, .int v_ones, .int v_parts, .ref vkeys, .ref vsigns, .ref vnumbers, .ref vstack])), (vkeys, eI G 40 fv_keys), (vsigns, eI G 40 fv_signs), (vnumbers, eI G 40 fv_numbers), (vstack, eI G 40 fv_stack)]) := by
  refine Cv.of (by decide) (Nat.le_of_ble_eq_true rfl) ?_
  intro p e s m below meth c ls A B hw hl
  have C : CallFix p m c cX7_copyFrom 2 s _ gw "LanternState$Sentence" := B.1
  have hl : lv_has ls 2 [(0, .ref qr), (1, .ref qv)] := hl
  refine lv_aload_n C.1 C.2.1 dX7_copyFrom_0 rfl (lv_at hl 0 rfl) ?_
  refine lv_aload_n C.1 C.2.1 dX7_copyFrom_1 rfl (lv_at hl 1 rfl) ?_
  refine x_get C hw iwX7 6 rfl 5 rfl 0 (by decide) kw320 rfl dX7_copyFrom_2 ?_
  refine x_put (w' := [(qr, .inr (6, [.int v_there, .int r_ones, .int r_parts, .ref rkeys, .ref rsigns, .ref rnumbers, .ref rstack])), (rkeys, eI G 40 fr_keys), (rsigns, eI G 40 fr_signs), (rnumbers, eI G 40 fr_numbers), (rstack, eI G 40 fr_stack), (qv, .inr (6, [.int v_there, .int v_ones, .int v_parts, .ref vkeys, .ref vsigns, .ref vnumbers, .ref vstack])), (vkeys, eI G 40 fv_keys), (vsigns, eI G 40 fv_signs), (vnumbers, eI G 40 fv_numbers), (vstack, eI G 40 fv_stack)]) C hw iwX7 tyX7_ok nmX7 6 rfl 0 rfl 0 (by decide) kw320 rfl hv_there.1 hv_there.2 (Nat.le_of_ble_eq_true rfl) rfl dX7_copyFrom_5 (fun H locs hw => ?_)
  refine lv_aload_n C.1 C.2.1 dX7_copyFrom_8 rfl (lv_at hl 0 rfl) ?_
  refine lv_aload_n C.1 C.2.1 dX7_copyFrom_9 rfl (lv_at hl 1 rfl) ?_
  refine x_get C hw iwX7 6 rfl 5 rfl 1 (by decide) kw322 rfl dX7_copyFrom_10 ?_
  refine x_put (w' := [(qr, .inr (6, [.int v_there, .int v_ones, .int r_parts, .ref rkeys, .ref rsigns, .ref rnumbers, .ref rstack])), (rkeys, eI G 40 fr_keys), (rsigns, eI G 40 fr_signs), (rnumbers, eI G 40 fr_numbers), (rstack, eI G 40 fr_stack), (qv, .inr (6, [.int v_there, .int v_ones, .int v_parts, .ref vkeys, .ref vsigns, .ref vnumbers, .ref vstack])), (vkeys, eI G 40 fv_keys), (vsigns, eI G 40 fv_signs), (vnumbers, eI G 40 fv_numbers), (vstack, eI G 40 fv_stack)]) C hw iwX7 tyX7_ok nmX7 6 rfl 0 rfl 1 (by decide) kw322 rfl rfl rfl (Nat.le_of_ble_eq_true rfl) rfl dX7_copyFrom_13 (fun H locs hw => ?_)
  refine lv_aload_n C.1 C.2.1 dX7_copyFrom_16 rfl (lv_at hl 0 rfl) ?_
  refine lv_aload_n C.1 C.2.1 dX7_copyFrom_17 rfl (lv_at hl 1 rfl) ?_
  refine x_get C hw iwX7 6 rfl 5 rfl 2 (by decide) kw324 rfl dX7_copyFrom_18 ?_
  refine x_put (w' := [(qr, .inr (6, [.int v_there, .int v_ones, .int v_parts, .ref rkeys, .ref rsigns, .ref rnumbers, .ref rstack])), (rkeys, eI G 40 fr_keys), (rsigns, eI G 40 fr_signs), (rnumbers, eI G 40 fr_numbers), (rstack, eI G 40 fr_stack), (qv, .inr (6, [.int v_there, .int v_ones, .int v_parts, .ref vkeys, .ref vsigns, .ref vnumbers, .ref vstack])), (vkeys, eI G 40 fv_keys), (vsigns, eI G 40 fv_signs), (vnumbers, eI G 40 fv_numbers), (vstack, eI G 40 fv_stack)]) C hw iwX7 tyX7_ok nmX7 6 rfl 0 rfl 2 (by decide) kw324 rfl rfl rfl (Nat.le_of_ble_eq_true rfl) rfl dX7_copyFrom_21 (fun H locs hw => ?_)
  refine lv_aload_n C.1 C.2.1 dX7_copyFrom_24 rfl (lv_at hl 1 rfl) ?_
  refine x_get C hw iwX7 6 rfl 5 rfl 3 (by decide) kw325 rfl dX7_copyFrom_25 ?_
  refine lv_iconst (v := 0) C.1 C.2.1 dX7_copyFrom_28 (by decide) ?_
  refine lv_aload_n C.1 C.2.1 dX7_copyFrom_29 rfl (lv_at hl 0 rfl) ?_
  refine x_get C hw iwX7 6 rfl 0 rfl 3 (by decide) kw325 rfl dX7_copyFrom_30 ?_
  refine lv_iconst (v := 0) C.1 C.2.1 dX7_copyFrom_33 (by decide) ?_
  refine lv_bipush (v := 40) C.1 C.2.1 dX7_copyFrom_34 (by decide) ?_
  refine x_copyi (g' := (va_cpy fv_keys fr_keys 0 0 40)) (w' := [(qr, .inr (6, [.int v_there, .int v_ones, .int v_parts, .ref rkeys, .ref rsigns, .ref rnumbers, .ref rstack])), (rkeys, eI G 40 (va_cpy fv_keys fr_keys 0 0 40)), (rsigns, eI G 40 fr_signs), (rnumbers, eI G 40 fr_numbers), (rstack, eI G 40 fr_stack), (qv, .inr (6, [.int v_there, .int v_ones, .int v_parts, .ref vkeys, .ref vsigns, .ref vnumbers, .ref vstack])), (vkeys, eI G 40 fv_keys), (vsigns, eI G 40 fv_signs), (vnumbers, eI G 40 fv_numbers), (vstack, eI G 40 fv_stack)]) C hw kw1053 hl.1 6 1 rfl rfl (by decide) (by decide) (by decide) (Nat.le_of_ble_eq_true rfl) (Nat.le_of_ble_eq_true rfl) rfl rfl (Nat.le_of_ble_eq_true rfl) (Nat.le_of_ble_eq_true rfl) dX7_copyFrom_36 (fun H locs hw => ?_)
  refine lv_aload_n C.1 C.2.1 dX7_copyFrom_39 rfl (lv_at hl 1 rfl) ?_
  refine x_get C hw iwX7 6 rfl 5 rfl 4 (by decide) kw326 rfl dX7_copyFrom_40 ?_
  refine lv_iconst (v := 0) C.1 C.2.1 dX7_copyFrom_43 (by decide) ?_
  refine lv_aload_n C.1 C.2.1 dX7_copyFrom_44 rfl (lv_at hl 0 rfl) ?_
  refine x_get C hw iwX7 6 rfl 0 rfl 4 (by decide) kw326 rfl dX7_copyFrom_45 ?_
  refine lv_iconst (v := 0) C.1 C.2.1 dX7_copyFrom_48 (by decide) ?_
  refine lv_bipush (v := 40) C.1 C.2.1 dX7_copyFrom_49 (by decide) ?_
  refine x_copyi (g' := (va_cpy fv_signs fr_signs 0 0 40)) (w' := [(qr, .inr (6, [.int v_there, .int v_ones, .int v_parts, .ref rkeys, .ref rsigns, .ref rnumbers, .ref rstack])), (rkeys, eI G 40 (va_cpy fv_keys fr_keys 0 0 40)), (rsigns, eI G 40 (va_cpy fv_signs fr_signs 0 0 40)), (rnumbers, eI G 40 fr_numbers), (rstack, eI G 40 fr_stack), (qv, .inr (6, [.int v_there, .int v_ones, .int v_parts, .ref vkeys, .ref vsigns, .ref vnumbers, .ref vstack])), (vkeys, eI G 40 fv_keys), (vsigns, eI G 40 fv_signs), (vnumbers, eI G 40 fv_numbers), (vstack, eI G 40 fv_stack)]) C hw kw1053 hl.1 7 2 rfl rfl (by decide) (by decide) (by decide) (Nat.le_of_ble_eq_true rfl) (Nat.le_of_ble_eq_true rfl) rfl rfl (Nat.le_of_ble_eq_true rfl) (Nat.le_of_ble_eq_true rfl) dX7_copyFrom_51 (fun H locs hw => ?_)
  refine lv_aload_n C.1 C.2.1 dX7_copyFrom_54 rfl (lv_at hl 1 rfl) ?_
  refine x_get C hw iwX7 6 rfl 5 rfl 5 (by decide) kw327 rfl dX7_copyFrom_55 ?_
  refine lv_iconst (v := 0) C.1 C.2.1 dX7_copyFrom_58 (by decide) ?_
  refine lv_aload_n C.1 C.2.1 dX7_copyFrom_59 rfl (lv_at hl 0 rfl) ?_
  refine x_get C hw iwX7 6 rfl 0 rfl 5 (by decide) kw327 rfl dX7_copyFrom_60 ?_
  refine lv_iconst (v := 0) C.1 C.2.1 dX7_copyFrom_63 (by decide) ?_
  refine lv_bipush (v := 40) C.1 C.2.1 dX7_copyFrom_64 (by decide) ?_
  refine x_copyi (g' := (va_cpy fv_numbers fr_numbers 0 0 40)) (w' := [(qr, .inr (6, [.int v_there, .int v_ones, .int v_parts, .ref rkeys, .ref rsigns, .ref rnumbers, .ref rstack])), (rkeys, eI G 40 (va_cpy fv_keys fr_keys 0 0 40)), (rsigns, eI G 40 (va_cpy fv_signs fr_signs 0 0 40)), (rnumbers, eI G 40 (va_cpy fv_numbers fr_numbers 0 0 40)), (rstack, eI G 40 fr_stack), (qv, .inr (6, [.int v_there, .int v_ones, .int v_parts, .ref vkeys, .ref vsigns, .ref vnumbers, .ref vstack])), (vkeys, eI G 40 fv_keys), (vsigns, eI G 40 fv_signs), (vnumbers, eI G 40 fv_numbers), (vstack, eI G 40 fv_stack)]) C hw kw1053 hl.1 8 3 rfl rfl (by decide) (by decide) (by decide) (Nat.le_of_ble_eq_true rfl) (Nat.le_of_ble_eq_true rfl) rfl rfl (Nat.le_of_ble_eq_true rfl) (Nat.le_of_ble_eq_true rfl) dX7_copyFrom_66 (fun H locs hw => ?_)
  exact x_retv B hw rfl (Nat.le_of_ble_eq_true rfl) (Nat.le_of_ble_eq_true rfl) dX7_copyFrom_69
