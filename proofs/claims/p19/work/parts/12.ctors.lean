theorem dX5_init_0 : decode cX5_init 0 = .ok (.aload_n 0, 1) := by decide +kernel
theorem dX5_init_1 : decode cX5_init 1 = .ok (.invokespecial 3, 3) := by decide +kernel
theorem dX5_init_4 : decode cX5_init 4 = .ok (.aload_n 0, 1) := by decide +kernel
theorem dX5_init_5 : decode cX5_init 5 = .ok (.iconst 1, 1) := by decide +kernel
theorem dX5_init_6 : decode cX5_init 6 = .ok (.putfield 9, 3) := by decide +kernel
theorem dX5_init_9 : decode cX5_init 9 = .ok (.aload_n 0, 1) := by decide +kernel
theorem dX5_init_10 : decode cX5_init 10 = .ok (.bipush 40, 2) := by decide +kernel
theorem dX5_init_12 : decode cX5_init 12 = .ok (.putfield 15, 3) := by decide +kernel
theorem dX5_init_15 : decode cX5_init 15 = .ok (.aload_n 0, 1) := by decide +kernel
theorem dX5_init_16 : decode cX5_init 16 = .ok (.bipush 6, 2) := by decide +kernel
theorem dX5_init_18 : decode cX5_init 18 = .ok (.newarray .long, 2) := by decide +kernel
theorem dX5_init_20 : decode cX5_init 20 = .ok (.putfield 18, 3) := by decide +kernel
theorem dX5_init_23 : decode cX5_init 23 = .ok (.aload_n 0, 1) := by decide +kernel
theorem dX5_init_24 : decode cX5_init 24 = .ok (.bipush 6, 2) := by decide +kernel
theorem dX5_init_26 : decode cX5_init 26 = .ok (.newarray .int, 2) := by decide +kernel
theorem dX5_init_28 : decode cX5_init 28 = .ok (.putfield 22, 3) := by decide +kernel
theorem dX5_init_31 : decode cX5_init 31 = .ok (.aload_n 0, 1) := by decide +kernel
theorem dX5_init_32 : decode cX5_init 32 = .ok (.bipush 6, 2) := by decide +kernel
theorem dX5_init_34 : decode cX5_init 34 = .ok (.newarray .int, 2) := by decide +kernel
theorem dX5_init_36 : decode cX5_init 36 = .ok (.putfield 26, 3) := by decide +kernel
theorem dX5_init_39 : decode cX5_init 39 = .ok (.aload_n 0, 1) := by decide +kernel
theorem dX5_init_40 : decode cX5_init 40 = .ok (.bipush 6, 2) := by decide +kernel
theorem dX5_init_42 : decode cX5_init 42 = .ok (.newarray .int, 2) := by decide +kernel
theorem dX5_init_44 : decode cX5_init 44 = .ok (.putfield 29, 3) := by decide +kernel
theorem dX5_init_47 : decode cX5_init 47 = .ok (.aload_n 0, 1) := by decide +kernel
theorem dX5_init_48 : decode cX5_init 48 = .ok (.bipush 8, 2) := by decide +kernel
theorem dX5_init_50 : decode cX5_init 50 = .ok (.newarray .long, 2) := by decide +kernel
theorem dX5_init_52 : decode cX5_init 52 = .ok (.putfield 32, 3) := by decide +kernel
theorem dX5_init_55 : decode cX5_init 55 = .ok (.aload_n 0, 1) := by decide +kernel
theorem dX5_init_56 : decode cX5_init 56 = .ok (.bipush 8, 2) := by decide +kernel
theorem dX5_init_58 : decode cX5_init 58 = .ok (.newarray .int, 2) := by decide +kernel
theorem dX5_init_60 : decode cX5_init 60 = .ok (.putfield 35, 3) := by decide +kernel
theorem dX5_init_63 : decode cX5_init 63 = .ok (.aload_n 0, 1) := by decide +kernel
theorem dX5_init_64 : decode cX5_init 64 = .ok (.bipush 8, 2) := by decide +kernel
theorem dX5_init_66 : decode cX5_init 66 = .ok (.newarray .int, 2) := by decide +kernel
theorem dX5_init_68 : decode cX5_init 68 = .ok (.putfield 38, 3) := by decide +kernel
theorem dX5_init_71 : decode cX5_init 71 = .ok (.aload_n 0, 1) := by decide +kernel
theorem dX5_init_72 : decode cX5_init 72 = .ok (.bipush 8, 2) := by decide +kernel
theorem dX5_init_74 : decode cX5_init 74 = .ok (.newarray .int, 2) := by decide +kernel
theorem dX5_init_76 : decode cX5_init 76 = .ok (.putfield 41, 3) := by decide +kernel
theorem dX5_init_79 : decode cX5_init 79 = .ok (.aload_n 0, 1) := by decide +kernel
theorem dX5_init_80 : decode cX5_init 80 = .ok (.bipush 8, 2) := by decide +kernel
theorem dX5_init_82 : decode cX5_init 82 = .ok (.newarray .int, 2) := by decide +kernel
theorem dX5_init_84 : decode cX5_init 84 = .ok (.putfield 44, 3) := by decide +kernel
theorem dX5_init_87 : decode cX5_init 87 = .ok (.return_, 1) := by decide +kernel
-- Scene()
set_option maxHeartbeats 4000000 in
set_option maxRecDepth 100000 in
theorem c_X5_init {l : Launch} {G : Gc} (qs : Nat)  : Cv l yX5_init cX5_init 1 1 9 64 G [.ref qs] [(qs, .inr (4, [.int 0, .int 0, .int 0, .int 0, .int 0, .int 0, .int 0, .int 0, .int 0, .null, .null, .null, .null, .null, .null, .null, .null, .null]))] (fun (u9 : va_W) => ∃ (sslideNames : Nat) (spictures : Nat) (sheats : Nat) (safter : Nat) (shearerNames : Nat) (sneeds : Nat) (slikes : Nat) (shates : Nat) (snear : Nat), u9 = [(qs, .inr (4, [.int 0, .int 0, .int 0, .int 0, .int 1, .int 0, .int 40, .int 0, .int 0, .ref sslideNames, .ref spictures, .ref sheats, .ref safter, .ref shearerNames, .ref sneeds, .ref slikes, .ref shates, .ref snear])), (sslideNames, eJ G 6 (fun _ => 0)), (spictures, eI G 6 (fun _ => 0)), (sheats, eI G 6 (fun _ => 0)), (safter, eI G 6 (fun _ => 0)), (shearerNames, eJ G 8 (fun _ => 0)), (sneeds, eI G 8 (fun _ => 0)), (slikes, eI G 8 (fun _ => 0)), (shates, eI G 8 (fun _ => 0)), (snear, eI G 8 (fun _ => 0))]) := by
  refine Cv.of (by decide) (Nat.le_of_ble_eq_true rfl) ?_
  intro p e s m below meth c ls A B hw hl
  have C : CallFix p m c cX5_init 1 s _ gw "LanternState$Scene" := B.1
  have hl : lv_has ls 1 [(0, .ref qs)] := hl
  refine lv_aload_n C.1 C.2.1 dX5_init_0 rfl (lv_at hl 0 rfl) ?_
  refine x_objInit C kw146 hl.1 (Nat.le_of_ble_eq_true rfl) (Nat.le_of_ble_eq_true rfl) dX5_init_1 ?_
  refine lv_aload_n C.1 C.2.1 dX5_init_4 rfl (lv_at hl 0 rfl) ?_
  refine lv_iconst (v := 1) C.1 C.2.1 dX5_init_5 (by decide) ?_
  refine x_put (w' := [(qs, .inr (4, [.int 0, .int 0, .int 0, .int 0, .int 1, .int 0, .int 0, .int 0, .int 0, .null, .null, .null, .null, .null, .null, .null, .null, .null]))]) C hw iwX5 tyX5_ok nmX5 4 rfl 0 rfl 4 (by decide) kw160 rfl rfl rfl (Nat.le_of_ble_eq_true rfl) rfl dX5_init_6 (fun H locs hw => ?_)
  refine lv_aload_n C.1 C.2.1 dX5_init_9 rfl (lv_at hl 0 rfl) ?_
  refine lv_bipush (v := 40) C.1 C.2.1 dX5_init_10 (by decide) ?_
  refine x_put (w' := [(qs, .inr (4, [.int 0, .int 0, .int 0, .int 0, .int 1, .int 0, .int 40, .int 0, .int 0, .null, .null, .null, .null, .null, .null, .null, .null, .null]))]) C hw iwX5 tyX5_ok nmX5 4 rfl 0 rfl 6 (by decide) kw164 rfl rfl rfl (Nat.le_of_ble_eq_true rfl) rfl dX5_init_12 (fun H locs hw => ?_)
  refine lv_aload_n C.1 C.2.1 dX5_init_15 rfl (lv_at hl 0 rfl) ?_
  refine lv_bipush (v := 6) C.1 C.2.1 dX5_init_16 (by decide) ?_
  refine x_newa (a0 := (6, .inr (.inl (fun _ => 0)))) (N := 6) C hw (atype := .long) rfl 3 rfl kw139 (fun _ => rfl) (by decide) (by decide) (Nat.le_of_ble_eq_true rfl) (Nat.le_of_ble_eq_true rfl) (Nat.le_of_ble_eq_true rfl) dX5_init_18 (fun q1 H hw => ?_)
  have hw : Wd G s A [(qs, .inr (4, [.int 0, .int 0, .int 0, .int 0, .int 1, .int 0, .int 40, .int 0, .int 0, .null, .null, .null, .null, .null, .null, .null, .null, .null])), (q1, eJ G 6 (fun _ => 0))] H _ := hw
  refine W.widen (k := 1) (n := 6) (Nat.le_of_ble_eq_true rfl) (Nat.le_of_ble_eq_true rfl) ?_
  refine x_putF (w' := [(qs, .inr (4, [.int 0, .int 0, .int 0, .int 0, .int 1, .int 0, .int 40, .int 0, .int 0, .ref q1, .null, .null, .null, .null, .null, .null, .null, .null])), (q1, eJ G 6 (fun _ => 0))]) C hw iwX5 tyX5_ok nmX5 B.2.2.2 4 rfl 0 rfl 9 (by decide) kw171 rfl rfl rfl rfl (Nat.le_of_ble_eq_true rfl) rfl dX5_init_20 (fun H locs hw => ?_)
  refine lv_aload_n C.1 C.2.1 dX5_init_23 rfl (lv_at hl 0 rfl) ?_
  refine lv_bipush (v := 6) C.1 C.2.1 dX5_init_24 (by decide) ?_
  refine x_newa (a0 := (6, .inl (fun _ => 0))) (N := 6) C hw (atype := .int) rfl 2 rfl kw230 (fun _ => rfl) (by decide) (by decide) (Nat.le_of_ble_eq_true rfl) (Nat.le_of_ble_eq_true rfl) (Nat.le_of_ble_eq_true rfl) dX5_init_26 (fun q2 H hw => ?_)
  have hw : Wd G s A [(qs, .inr (4, [.int 0, .int 0, .int 0, .int 0, .int 1, .int 0, .int 40, .int 0, .int 0, .ref q1, .null, .null, .null, .null, .null, .null, .null, .null])), (q1, eJ G 6 (fun _ => 0)), (q2, eI G 6 (fun _ => 0))] H _ := hw
  refine W.widen (k := 2) (n := 12) (Nat.le_of_ble_eq_true rfl) (Nat.le_of_ble_eq_true rfl) ?_
  refine x_putF (w' := [(qs, .inr (4, [.int 0, .int 0, .int 0, .int 0, .int 1, .int 0, .int 40, .int 0, .int 0, .ref q1, .ref q2, .null, .null, .null, .null, .null, .null, .null])), (q1, eJ G 6 (fun _ => 0)), (q2, eI G 6 (fun _ => 0))]) C hw iwX5 tyX5_ok nmX5 B.2.2.2 4 rfl 0 rfl 10 (by decide) kw173 rfl rfl rfl rfl (Nat.le_of_ble_eq_true rfl) rfl dX5_init_28 (fun H locs hw => ?_)
  refine lv_aload_n C.1 C.2.1 dX5_init_31 rfl (lv_at hl 0 rfl) ?_
  refine lv_bipush (v := 6) C.1 C.2.1 dX5_init_32 (by decide) ?_
  refine x_newa (a0 := (6, .inl (fun _ => 0))) (N := 6) C hw (atype := .int) rfl 2 rfl kw230 (fun _ => rfl) (by decide) (by decide) (Nat.le_of_ble_eq_true rfl) (Nat.le_of_ble_eq_true rfl) (Nat.le_of_ble_eq_true rfl) dX5_init_34 (fun q3 H hw => ?_)
  have hw : Wd G s A [(qs, .inr (4, [.int 0, .int 0, .int 0, .int 0, .int 1, .int 0, .int 40, .int 0, .int 0, .ref q1, .ref q2, .null, .null, .null, .null, .null, .null, .null])), (q1, eJ G 6 (fun _ => 0)), (q2, eI G 6 (fun _ => 0)), (q3, eI G 6 (fun _ => 0))] H _ := hw
  refine W.widen (k := 3) (n := 18) (Nat.le_of_ble_eq_true rfl) (Nat.le_of_ble_eq_true rfl) ?_
  refine x_putF (w' := [(qs, .inr (4, [.int 0, .int 0, .int 0, .int 0, .int 1, .int 0, .int 40, .int 0, .int 0, .ref q1, .ref q2, .ref q3, .null, .null, .null, .null, .null, .null])), (q1, eJ G 6 (fun _ => 0)), (q2, eI G 6 (fun _ => 0)), (q3, eI G 6 (fun _ => 0))]) C hw iwX5 tyX5_ok nmX5 B.2.2.2 4 rfl 0 rfl 11 (by decide) kw175 rfl rfl rfl rfl (Nat.le_of_ble_eq_true rfl) rfl dX5_init_36 (fun H locs hw => ?_)
  refine lv_aload_n C.1 C.2.1 dX5_init_39 rfl (lv_at hl 0 rfl) ?_
  refine lv_bipush (v := 6) C.1 C.2.1 dX5_init_40 (by decide) ?_
  refine x_newa (a0 := (6, .inl (fun _ => 0))) (N := 6) C hw (atype := .int) rfl 2 rfl kw230 (fun _ => rfl) (by decide) (by decide) (Nat.le_of_ble_eq_true rfl) (Nat.le_of_ble_eq_true rfl) (Nat.le_of_ble_eq_true rfl) dX5_init_42 (fun q4 H hw => ?_)
  have hw : Wd G s A [(qs, .inr (4, [.int 0, .int 0, .int 0, .int 0, .int 1, .int 0, .int 40, .int 0, .int 0, .ref q1, .ref q2, .ref q3, .null, .null, .null, .null, .null, .null])), (q1, eJ G 6 (fun _ => 0)), (q2, eI G 6 (fun _ => 0)), (q3, eI G 6 (fun _ => 0)), (q4, eI G 6 (fun _ => 0))] H _ := hw
  refine W.widen (k := 4) (n := 24) (Nat.le_of_ble_eq_true rfl) (Nat.le_of_ble_eq_true rfl) ?_
  refine x_putF (w' := [(qs, .inr (4, [.int 0, .int 0, .int 0, .int 0, .int 1, .int 0, .int 40, .int 0, .int 0, .ref q1, .ref q2, .ref q3, .ref q4, .null, .null, .null, .null, .null])), (q1, eJ G 6 (fun _ => 0)), (q2, eI G 6 (fun _ => 0)), (q3, eI G 6 (fun _ => 0)), (q4, eI G 6 (fun _ => 0))]) C hw iwX5 tyX5_ok nmX5 B.2.2.2 4 rfl 0 rfl 12 (by decide) kw180 rfl rfl rfl rfl (Nat.le_of_ble_eq_true rfl) rfl dX5_init_44 (fun H locs hw => ?_)
  refine lv_aload_n C.1 C.2.1 dX5_init_47 rfl (lv_at hl 0 rfl) ?_
  refine lv_bipush (v := 8) C.1 C.2.1 dX5_init_48 (by decide) ?_
  refine x_newa (a0 := (8, .inr (.inl (fun _ => 0)))) (N := 8) C hw (atype := .long) rfl 3 rfl kw139 (fun _ => rfl) (by decide) (by decide) (Nat.le_of_ble_eq_true rfl) (Nat.le_of_ble_eq_true rfl) (Nat.le_of_ble_eq_true rfl) dX5_init_50 (fun q5 H hw => ?_)
  have hw : Wd G s A [(qs, .inr (4, [.int 0, .int 0, .int 0, .int 0, .int 1, .int 0, .int 40, .int 0, .int 0, .ref q1, .ref q2, .ref q3, .ref q4, .null, .null, .null, .null, .null])), (q1, eJ G 6 (fun _ => 0)), (q2, eI G 6 (fun _ => 0)), (q3, eI G 6 (fun _ => 0)), (q4, eI G 6 (fun _ => 0)), (q5, eJ G 8 (fun _ => 0))] H _ := hw
  refine W.widen (k := 5) (n := 32) (Nat.le_of_ble_eq_true rfl) (Nat.le_of_ble_eq_true rfl) ?_
  refine x_putF (w' := [(qs, .inr (4, [.int 0, .int 0, .int 0, .int 0, .int 1, .int 0, .int 40, .int 0, .int 0, .ref q1, .ref q2, .ref q3, .ref q4, .ref q5, .null, .null, .null, .null])), (q1, eJ G 6 (fun _ => 0)), (q2, eI G 6 (fun _ => 0)), (q3, eI G 6 (fun _ => 0)), (q4, eI G 6 (fun _ => 0)), (q5, eJ G 8 (fun _ => 0))]) C hw iwX5 tyX5_ok nmX5 B.2.2.2 4 rfl 0 rfl 13 (by decide) kw184 rfl rfl rfl rfl (Nat.le_of_ble_eq_true rfl) rfl dX5_init_52 (fun H locs hw => ?_)
  refine lv_aload_n C.1 C.2.1 dX5_init_55 rfl (lv_at hl 0 rfl) ?_
  refine lv_bipush (v := 8) C.1 C.2.1 dX5_init_56 (by decide) ?_
  refine x_newa (a0 := (8, .inl (fun _ => 0))) (N := 8) C hw (atype := .int) rfl 2 rfl kw230 (fun _ => rfl) (by decide) (by decide) (Nat.le_of_ble_eq_true rfl) (Nat.le_of_ble_eq_true rfl) (Nat.le_of_ble_eq_true rfl) dX5_init_58 (fun q6 H hw => ?_)
  have hw : Wd G s A [(qs, .inr (4, [.int 0, .int 0, .int 0, .int 0, .int 1, .int 0, .int 40, .int 0, .int 0, .ref q1, .ref q2, .ref q3, .ref q4, .ref q5, .null, .null, .null, .null])), (q1, eJ G 6 (fun _ => 0)), (q2, eI G 6 (fun _ => 0)), (q3, eI G 6 (fun _ => 0)), (q4, eI G 6 (fun _ => 0)), (q5, eJ G 8 (fun _ => 0)), (q6, eI G 8 (fun _ => 0))] H _ := hw
  refine W.widen (k := 6) (n := 40) (Nat.le_of_ble_eq_true rfl) (Nat.le_of_ble_eq_true rfl) ?_
  refine x_putF (w' := [(qs, .inr (4, [.int 0, .int 0, .int 0, .int 0, .int 1, .int 0, .int 40, .int 0, .int 0, .ref q1, .ref q2, .ref q3, .ref q4, .ref q5, .ref q6, .null, .null, .null])), (q1, eJ G 6 (fun _ => 0)), (q2, eI G 6 (fun _ => 0)), (q3, eI G 6 (fun _ => 0)), (q4, eI G 6 (fun _ => 0)), (q5, eJ G 8 (fun _ => 0)), (q6, eI G 8 (fun _ => 0))]) C hw iwX5 tyX5_ok nmX5 B.2.2.2 4 rfl 0 rfl 14 (by decide) kw185 rfl rfl rfl rfl (Nat.le_of_ble_eq_true rfl) rfl dX5_init_60 (fun H locs hw => ?_)
  refine lv_aload_n C.1 C.2.1 dX5_init_63 rfl (lv_at hl 0 rfl) ?_
  refine lv_bipush (v := 8) C.1 C.2.1 dX5_init_64 (by decide) ?_
  refine x_newa (a0 := (8, .inl (fun _ => 0))) (N := 8) C hw (atype := .int) rfl 2 rfl kw230 (fun _ => rfl) (by decide) (by decide) (Nat.le_of_ble_eq_true rfl) (Nat.le_of_ble_eq_true rfl) (Nat.le_of_ble_eq_true rfl) dX5_init_66 (fun q7 H hw => ?_)
  have hw : Wd G s A [(qs, .inr (4, [.int 0, .int 0, .int 0, .int 0, .int 1, .int 0, .int 40, .int 0, .int 0, .ref q1, .ref q2, .ref q3, .ref q4, .ref q5, .ref q6, .null, .null, .null])), (q1, eJ G 6 (fun _ => 0)), (q2, eI G 6 (fun _ => 0)), (q3, eI G 6 (fun _ => 0)), (q4, eI G 6 (fun _ => 0)), (q5, eJ G 8 (fun _ => 0)), (q6, eI G 8 (fun _ => 0)), (q7, eI G 8 (fun _ => 0))] H _ := hw
  refine W.widen (k := 7) (n := 48) (Nat.le_of_ble_eq_true rfl) (Nat.le_of_ble_eq_true rfl) ?_
  refine x_putF (w' := [(qs, .inr (4, [.int 0, .int 0, .int 0, .int 0, .int 1, .int 0, .int 40, .int 0, .int 0, .ref q1, .ref q2, .ref q3, .ref q4, .ref q5, .ref q6, .ref q7, .null, .null])), (q1, eJ G 6 (fun _ => 0)), (q2, eI G 6 (fun _ => 0)), (q3, eI G 6 (fun _ => 0)), (q4, eI G 6 (fun _ => 0)), (q5, eJ G 8 (fun _ => 0)), (q6, eI G 8 (fun _ => 0)), (q7, eI G 8 (fun _ => 0))]) C hw iwX5 tyX5_ok nmX5 B.2.2.2 4 rfl 0 rfl 15 (by decide) kw187 rfl rfl rfl rfl (Nat.le_of_ble_eq_true rfl) rfl dX5_init_68 (fun H locs hw => ?_)
  refine lv_aload_n C.1 C.2.1 dX5_init_71 rfl (lv_at hl 0 rfl) ?_
  refine lv_bipush (v := 8) C.1 C.2.1 dX5_init_72 (by decide) ?_
  refine x_newa (a0 := (8, .inl (fun _ => 0))) (N := 8) C hw (atype := .int) rfl 2 rfl kw230 (fun _ => rfl) (by decide) (by decide) (Nat.le_of_ble_eq_true rfl) (Nat.le_of_ble_eq_true rfl) (Nat.le_of_ble_eq_true rfl) dX5_init_74 (fun q8 H hw => ?_)
  have hw : Wd G s A [(qs, .inr (4, [.int 0, .int 0, .int 0, .int 0, .int 1, .int 0, .int 40, .int 0, .int 0, .ref q1, .ref q2, .ref q3, .ref q4, .ref q5, .ref q6, .ref q7, .null, .null])), (q1, eJ G 6 (fun _ => 0)), (q2, eI G 6 (fun _ => 0)), (q3, eI G 6 (fun _ => 0)), (q4, eI G 6 (fun _ => 0)), (q5, eJ G 8 (fun _ => 0)), (q6, eI G 8 (fun _ => 0)), (q7, eI G 8 (fun _ => 0)), (q8, eI G 8 (fun _ => 0))] H _ := hw
  refine W.widen (k := 8) (n := 56) (Nat.le_of_ble_eq_true rfl) (Nat.le_of_ble_eq_true rfl) ?_
  refine x_putF (w' := [(qs, .inr (4, [.int 0, .int 0, .int 0, .int 0, .int 1, .int 0, .int 40, .int 0, .int 0, .ref q1, .ref q2, .ref q3, .ref q4, .ref q5, .ref q6, .ref q7, .ref q8, .null])), (q1, eJ G 6 (fun _ => 0)), (q2, eI G 6 (fun _ => 0)), (q3, eI G 6 (fun _ => 0)), (q4, eI G 6 (fun _ => 0)), (q5, eJ G 8 (fun _ => 0)), (q6, eI G 8 (fun _ => 0)), (q7, eI G 8 (fun _ => 0)), (q8, eI G 8 (fun _ => 0))]) C hw iwX5 tyX5_ok nmX5 B.2.2.2 4 rfl 0 rfl 16 (by decide) kw189 rfl rfl rfl rfl (Nat.le_of_ble_eq_true rfl) rfl dX5_init_76 (fun H locs hw => ?_)
  refine lv_aload_n C.1 C.2.1 dX5_init_79 rfl (lv_at hl 0 rfl) ?_
  refine lv_bipush (v := 8) C.1 C.2.1 dX5_init_80 (by decide) ?_
  refine x_newa (a0 := (8, .inl (fun _ => 0))) (N := 8) C hw (atype := .int) rfl 2 rfl kw230 (fun _ => rfl) (by decide) (by decide) (Nat.le_of_ble_eq_true rfl) (Nat.le_of_ble_eq_true rfl) (Nat.le_of_ble_eq_true rfl) dX5_init_82 (fun q9 H hw => ?_)
  have hw : Wd G s A [(qs, .inr (4, [.int 0, .int 0, .int 0, .int 0, .int 1, .int 0, .int 40, .int 0, .int 0, .ref q1, .ref q2, .ref q3, .ref q4, .ref q5, .ref q6, .ref q7, .ref q8, .null])), (q1, eJ G 6 (fun _ => 0)), (q2, eI G 6 (fun _ => 0)), (q3, eI G 6 (fun _ => 0)), (q4, eI G 6 (fun _ => 0)), (q5, eJ G 8 (fun _ => 0)), (q6, eI G 8 (fun _ => 0)), (q7, eI G 8 (fun _ => 0)), (q8, eI G 8 (fun _ => 0)), (q9, eI G 8 (fun _ => 0))] H _ := hw
  refine W.widen (k := 9) (n := 64) (Nat.le_of_ble_eq_true rfl) (Nat.le_of_ble_eq_true rfl) ?_
  refine x_putF (w' := [(qs, .inr (4, [.int 0, .int 0, .int 0, .int 0, .int 1, .int 0, .int 40, .int 0, .int 0, .ref q1, .ref q2, .ref q3, .ref q4, .ref q5, .ref q6, .ref q7, .ref q8, .ref q9])), (q1, eJ G 6 (fun _ => 0)), (q2, eI G 6 (fun _ => 0)), (q3, eI G 6 (fun _ => 0)), (q4, eI G 6 (fun _ => 0)), (q5, eJ G 8 (fun _ => 0)), (q6, eI G 8 (fun _ => 0)), (q7, eI G 8 (fun _ => 0)), (q8, eI G 8 (fun _ => 0)), (q9, eI G 8 (fun _ => 0))]) C hw iwX5 tyX5_ok nmX5 B.2.2.2 4 rfl 0 rfl 17 (by decide) kw191 rfl rfl rfl rfl (Nat.le_of_ble_eq_true rfl) rfl dX5_init_84 (fun H locs hw => ?_)
  exact x_retv B hw ⟨q1, q2, q3, q4, q5, q6, q7, q8, q9, rfl⟩ (Nat.le_of_ble_eq_true rfl) (Nat.le_of_ble_eq_true rfl) dX5_init_87
theorem dX8_init_0 : decode cX8_init 0 = .ok (.aload_n 0, 1) := by decide +kernel
theorem dX8_init_1 : decode cX8_init 1 = .ok (.invokespecial 3, 3) := by decide +kernel
theorem dX8_init_4 : decode cX8_init 4 = .ok (.aload_n 0, 1) := by decide +kernel
theorem dX8_init_5 : decode cX8_init 5 = .ok (.bipush 6, 2) := by decide +kernel
theorem dX8_init_7 : decode cX8_init 7 = .ok (.newarray .int, 2) := by decide +kernel
theorem dX8_init_9 : decode cX8_init 9 = .ok (.putfield 9, 3) := by decide +kernel
theorem dX8_init_12 : decode cX8_init 12 = .ok (.aload_n 0, 1) := by decide +kernel
theorem dX8_init_13 : decode cX8_init 13 = .ok (.bipush 6, 2) := by decide +kernel
theorem dX8_init_15 : decode cX8_init 15 = .ok (.newarray .int, 2) := by decide +kernel
theorem dX8_init_17 : decode cX8_init 17 = .ok (.putfield 15, 3) := by decide +kernel
theorem dX8_init_20 : decode cX8_init 20 = .ok (.aload_n 0, 1) := by decide +kernel
theorem dX8_init_21 : decode cX8_init 21 = .ok (.bipush 8, 2) := by decide +kernel
theorem dX8_init_23 : decode cX8_init 23 = .ok (.newarray .int, 2) := by decide +kernel
theorem dX8_init_25 : decode cX8_init 25 = .ok (.putfield 18, 3) := by decide +kernel
theorem dX8_init_28 : decode cX8_init 28 = .ok (.return_, 1) := by decide +kernel
-- State()
set_option maxHeartbeats 4000000 in
set_option maxRecDepth 100000 in
theorem c_X8_init {l : Launch} {G : Gc} (qa : Nat)  : Cv l yX8_init cX8_init 1 1 3 20 G [.ref qa] [(qa, .inr (7, [.int 0, .int 0, .int 0, .int 0, .int 0, .int 0, .int 0, .int 0, .null, .null, .null]))] (fun (u9 : va_W) => ∃ (apictures : Nat) (ashown : Nat) (asighed : Nat), u9 = [(qa, .inr (7, [.int 0, .int 0, .int 0, .int 0, .int 0, .int 0, .int 0, .int 0, .ref apictures, .ref ashown, .ref asighed])), (apictures, eI G 6 (fun _ => 0)), (ashown, eI G 6 (fun _ => 0)), (asighed, eI G 8 (fun _ => 0))]) := by
  refine Cv.of (by decide) (Nat.le_of_ble_eq_true rfl) ?_
  intro p e s m below meth c ls A B hw hl
  have C : CallFix p m c cX8_init 1 s _ gw "LanternState$State" := B.1
  have hl : lv_has ls 1 [(0, .ref qa)] := hl
  refine lv_aload_n C.1 C.2.1 dX8_init_0 rfl (lv_at hl 0 rfl) ?_
  refine x_objInit C kw236 hl.1 (Nat.le_of_ble_eq_true rfl) (Nat.le_of_ble_eq_true rfl) dX8_init_1 ?_
  refine lv_aload_n C.1 C.2.1 dX8_init_4 rfl (lv_at hl 0 rfl) ?_
  refine lv_bipush (v := 6) C.1 C.2.1 dX8_init_5 (by decide) ?_
  refine x_newa (a0 := (6, .inl (fun _ => 0))) (N := 6) C hw (atype := .int) rfl 2 rfl kw230 (fun _ => rfl) (by decide) (by decide) (Nat.le_of_ble_eq_true rfl) (Nat.le_of_ble_eq_true rfl) (Nat.le_of_ble_eq_true rfl) dX8_init_7 (fun q1 H hw => ?_)
  have hw : Wd G s A [(qa, .inr (7, [.int 0, .int 0, .int 0, .int 0, .int 0, .int 0, .int 0, .int 0, .null, .null, .null])), (q1, eI G 6 (fun _ => 0))] H _ := hw
  refine W.widen (k := 1) (n := 6) (Nat.le_of_ble_eq_true rfl) (Nat.le_of_ble_eq_true rfl) ?_
  refine x_putF (w' := [(qa, .inr (7, [.int 0, .int 0, .int 0, .int 0, .int 0, .int 0, .int 0, .int 0, .ref q1, .null, .null])), (q1, eI G 6 (fun _ => 0))]) C hw iwX8 tyX8_ok nmX8 B.2.2.2 7 rfl 0 rfl 8 (by decide) kw263 rfl rfl rfl rfl (Nat.le_of_ble_eq_true rfl) rfl dX8_init_9 (fun H locs hw => ?_)
  refine lv_aload_n C.1 C.2.1 dX8_init_12 rfl (lv_at hl 0 rfl) ?_
  refine lv_bipush (v := 6) C.1 C.2.1 dX8_init_13 (by decide) ?_
  refine x_newa (a0 := (6, .inl (fun _ => 0))) (N := 6) C hw (atype := .int) rfl 2 rfl kw230 (fun _ => rfl) (by decide) (by decide) (Nat.le_of_ble_eq_true rfl) (Nat.le_of_ble_eq_true rfl) (Nat.le_of_ble_eq_true rfl) dX8_init_15 (fun q2 H hw => ?_)
  have hw : Wd G s A [(qa, .inr (7, [.int 0, .int 0, .int 0, .int 0, .int 0, .int 0, .int 0, .int 0, .ref q1, .null, .null])), (q1, eI G 6 (fun _ => 0)), (q2, eI G 6 (fun _ => 0))] H _ := hw
  refine W.widen (k := 2) (n := 12) (Nat.le_of_ble_eq_true rfl) (Nat.le_of_ble_eq_true rfl) ?_
  refine x_putF (w' := [(qa, .inr (7, [.int 0, .int 0, .int 0, .int 0, .int 0, .int 0, .int 0, .int 0, .ref q1, .ref q2, .null])), (q1, eI G 6 (fun _ => 0)), (q2, eI G 6 (fun _ => 0))]) C hw iwX8 tyX8_ok nmX8 B.2.2.2 7 rfl 0 rfl 9 (by decide) kw267 rfl rfl rfl rfl (Nat.le_of_ble_eq_true rfl) rfl dX8_init_17 (fun H locs hw => ?_)
  refine lv_aload_n C.1 C.2.1 dX8_init_20 rfl (lv_at hl 0 rfl) ?_
  refine lv_bipush (v := 8) C.1 C.2.1 dX8_init_21 (by decide) ?_
  refine x_newa (a0 := (8, .inl (fun _ => 0))) (N := 8) C hw (atype := .int) rfl 2 rfl kw230 (fun _ => rfl) (by decide) (by decide) (Nat.le_of_ble_eq_true rfl) (Nat.le_of_ble_eq_true rfl) (Nat.le_of_ble_eq_true rfl) dX8_init_23 (fun q3 H hw => ?_)
  have hw : Wd G s A [(qa, .inr (7, [.int 0, .int 0, .int 0, .int 0, .int 0, .int 0, .int 0, .int 0, .ref q1, .ref q2, .null])), (q1, eI G 6 (fun _ => 0)), (q2, eI G 6 (fun _ => 0)), (q3, eI G 8 (fun _ => 0))] H _ := hw
  refine W.widen (k := 3) (n := 20) (Nat.le_of_ble_eq_true rfl) (Nat.le_of_ble_eq_true rfl) ?_
  refine x_putF (w' := [(qa, .inr (7, [.int 0, .int 0, .int 0, .int 0, .int 0, .int 0, .int 0, .int 0, .ref q1, .ref q2, .ref q3])), (q1, eI G 6 (fun _ => 0)), (q2, eI G 6 (fun _ => 0)), (q3, eI G 8 (fun _ => 0))]) C hw iwX8 tyX8_ok nmX8 B.2.2.2 7 rfl 0 rfl 10 (by decide) kw269 rfl rfl rfl rfl (Nat.le_of_ble_eq_true rfl) rfl dX8_init_25 (fun H locs hw => ?_)
  exact x_retv B hw ⟨q1, q2, q3, rfl⟩ (Nat.le_of_ble_eq_true rfl) (Nat.le_of_ble_eq_true rfl) dX8_init_28
theorem dX7_init_0 : decode cX7_init 0 = .ok (.aload_n 0, 1) := by decide +kernel
theorem dX7_init_1 : decode cX7_init 1 = .ok (.invokespecial 3, 3) := by decide +kernel
theorem dX7_init_4 : decode cX7_init 4 = .ok (.aload_n 0, 1) := by decide +kernel
theorem dX7_init_5 : decode cX7_init 5 = .ok (.bipush 40, 2) := by decide +kernel
theorem dX7_init_7 : decode cX7_init 7 = .ok (.newarray .int, 2) := by decide +kernel
theorem dX7_init_9 : decode cX7_init 9 = .ok (.putfield 11, 3) := by decide +kernel
theorem dX7_init_12 : decode cX7_init 12 = .ok (.aload_n 0, 1) := by decide +kernel
theorem dX7_init_13 : decode cX7_init 13 = .ok (.bipush 40, 2) := by decide +kernel
theorem dX7_init_15 : decode cX7_init 15 = .ok (.newarray .int, 2) := by decide +kernel
theorem dX7_init_17 : decode cX7_init 17 = .ok (.putfield 15, 3) := by decide +kernel
theorem dX7_init_20 : decode cX7_init 20 = .ok (.aload_n 0, 1) := by decide +kernel
theorem dX7_init_21 : decode cX7_init 21 = .ok (.bipush 40, 2) := by decide +kernel
theorem dX7_init_23 : decode cX7_init 23 = .ok (.newarray .int, 2) := by decide +kernel
theorem dX7_init_25 : decode cX7_init 25 = .ok (.putfield 18, 3) := by decide +kernel
theorem dX7_init_28 : decode cX7_init 28 = .ok (.aload_n 0, 1) := by decide +kernel
theorem dX7_init_29 : decode cX7_init 29 = .ok (.bipush 40, 2) := by decide +kernel
theorem dX7_init_31 : decode cX7_init 31 = .ok (.newarray .int, 2) := by decide +kernel
theorem dX7_init_33 : decode cX7_init 33 = .ok (.putfield 21, 3) := by decide +kernel
theorem dX7_init_36 : decode cX7_init 36 = .ok (.return_, 1) := by decide +kernel
-- Sentence()
set_option maxHeartbeats 4000000 in
set_option maxRecDepth 100000 in
theorem c_X7_init {l : Launch} {G : Gc} (qr : Nat)  : Cv l yX7_init cX7_init 1 1 4 160 G [.ref qr] [(qr, .inr (6, [.int 0, .int 0, .int 0, .null, .null, .null, .null]))] (fun (u9 : va_W) => ∃ (rkeys : Nat) (rsigns : Nat) (rnumbers : Nat) (rstack : Nat), u9 = [(qr, .inr (6, [.int 0, .int 0, .int 0, .ref rkeys, .ref rsigns, .ref rnumbers, .ref rstack])), (rkeys, eI G 40 (fun _ => 0)), (rsigns, eI G 40 (fun _ => 0)), (rnumbers, eI G 40 (fun _ => 0)), (rstack, eI G 40 (fun _ => 0))]) := by
  refine Cv.of (by decide) (Nat.le_of_ble_eq_true rfl) ?_
  intro p e s m below meth c ls A B hw hl
  have C : CallFix p m c cX7_init 1 s _ gw "LanternState$Sentence" := B.1
  have hl : lv_has ls 1 [(0, .ref qr)] := hl
  refine lv_aload_n C.1 C.2.1 dX7_init_0 rfl (lv_at hl 0 rfl) ?_
  refine x_objInit C kw319 hl.1 (Nat.le_of_ble_eq_true rfl) (Nat.le_of_ble_eq_true rfl) dX7_init_1 ?_
  refine lv_aload_n C.1 C.2.1 dX7_init_4 rfl (lv_at hl 0 rfl) ?_
  refine lv_bipush (v := 40) C.1 C.2.1 dX7_init_5 (by decide) ?_
  refine x_newa (a0 := (40, .inl (fun _ => 0))) (N := 40) C hw (atype := .int) rfl 2 rfl kw230 (fun _ => rfl) (by decide) (by decide) (Nat.le_of_ble_eq_true rfl) (Nat.le_of_ble_eq_true rfl) (Nat.le_of_ble_eq_true rfl) dX7_init_7 (fun q1 H hw => ?_)
  have hw : Wd G s A [(qr, .inr (6, [.int 0, .int 0, .int 0, .null, .null, .null, .null])), (q1, eI G 40 (fun _ => 0))] H _ := hw
  refine W.widen (k := 1) (n := 40) (Nat.le_of_ble_eq_true rfl) (Nat.le_of_ble_eq_true rfl) ?_
  refine x_putF (w' := [(qr, .inr (6, [.int 0, .int 0, .int 0, .ref q1, .null, .null, .null])), (q1, eI G 40 (fun _ => 0))]) C hw iwX7 tyX7_ok nmX7 B.2.2.2 6 rfl 0 rfl 3 (by decide) kw325 rfl rfl rfl rfl (Nat.le_of_ble_eq_true rfl) rfl dX7_init_9 (fun H locs hw => ?_)
  refine lv_aload_n C.1 C.2.1 dX7_init_12 rfl (lv_at hl 0 rfl) ?_
  refine lv_bipush (v := 40) C.1 C.2.1 dX7_init_13 (by decide) ?_
  refine x_newa (a0 := (40, .inl (fun _ => 0))) (N := 40) C hw (atype := .int) rfl 2 rfl kw230 (fun _ => rfl) (by decide) (by decide) (Nat.le_of_ble_eq_true rfl) (Nat.le_of_ble_eq_true rfl) (Nat.le_of_ble_eq_true rfl) dX7_init_15 (fun q2 H hw => ?_)
  have hw : Wd G s A [(qr, .inr (6, [.int 0, .int 0, .int 0, .ref q1, .null, .null, .null])), (q1, eI G 40 (fun _ => 0)), (q2, eI G 40 (fun _ => 0))] H _ := hw
  refine W.widen (k := 2) (n := 80) (Nat.le_of_ble_eq_true rfl) (Nat.le_of_ble_eq_true rfl) ?_
  refine x_putF (w' := [(qr, .inr (6, [.int 0, .int 0, .int 0, .ref q1, .ref q2, .null, .null])), (q1, eI G 40 (fun _ => 0)), (q2, eI G 40 (fun _ => 0))]) C hw iwX7 tyX7_ok nmX7 B.2.2.2 6 rfl 0 rfl 4 (by decide) kw326 rfl rfl rfl rfl (Nat.le_of_ble_eq_true rfl) rfl dX7_init_17 (fun H locs hw => ?_)
  refine lv_aload_n C.1 C.2.1 dX7_init_20 rfl (lv_at hl 0 rfl) ?_
  refine lv_bipush (v := 40) C.1 C.2.1 dX7_init_21 (by decide) ?_
  refine x_newa (a0 := (40, .inl (fun _ => 0))) (N := 40) C hw (atype := .int) rfl 2 rfl kw230 (fun _ => rfl) (by decide) (by decide) (Nat.le_of_ble_eq_true rfl) (Nat.le_of_ble_eq_true rfl) (Nat.le_of_ble_eq_true rfl) dX7_init_23 (fun q3 H hw => ?_)
  have hw : Wd G s A [(qr, .inr (6, [.int 0, .int 0, .int 0, .ref q1, .ref q2, .null, .null])), (q1, eI G 40 (fun _ => 0)), (q2, eI G 40 (fun _ => 0)), (q3, eI G 40 (fun _ => 0))] H _ := hw
  refine W.widen (k := 3) (n := 120) (Nat.le_of_ble_eq_true rfl) (Nat.le_of_ble_eq_true rfl) ?_
  refine x_putF (w' := [(qr, .inr (6, [.int 0, .int 0, .int 0, .ref q1, .ref q2, .ref q3, .null])), (q1, eI G 40 (fun _ => 0)), (q2, eI G 40 (fun _ => 0)), (q3, eI G 40 (fun _ => 0))]) C hw iwX7 tyX7_ok nmX7 B.2.2.2 6 rfl 0 rfl 5 (by decide) kw327 rfl rfl rfl rfl (Nat.le_of_ble_eq_true rfl) rfl dX7_init_25 (fun H locs hw => ?_)
  refine lv_aload_n C.1 C.2.1 dX7_init_28 rfl (lv_at hl 0 rfl) ?_
  refine lv_bipush (v := 40) C.1 C.2.1 dX7_init_29 (by decide) ?_
  refine x_newa (a0 := (40, .inl (fun _ => 0))) (N := 40) C hw (atype := .int) rfl 2 rfl kw230 (fun _ => rfl) (by decide) (by decide) (Nat.le_of_ble_eq_true rfl) (Nat.le_of_ble_eq_true rfl) (Nat.le_of_ble_eq_true rfl) dX7_init_31 (fun q4 H hw => ?_)
  have hw : Wd G s A [(qr, .inr (6, [.int 0, .int 0, .int 0, .ref q1, .ref q2, .ref q3, .null])), (q1, eI G 40 (fun _ => 0)), (q2, eI G 40 (fun _ => 0)), (q3, eI G 40 (fun _ => 0)), (q4, eI G 40 (fun _ => 0))] H _ := hw
  refine W.widen (k := 4) (n := 160) (Nat.le_of_ble_eq_true rfl) (Nat.le_of_ble_eq_true rfl) ?_
  refine x_putF (w' := [(qr, .inr (6, [.int 0, .int 0, .int 0, .ref q1, .ref q2, .ref q3, .ref q4])), (q1, eI G 40 (fun _ => 0)), (q2, eI G 40 (fun _ => 0)), (q3, eI G 40 (fun _ => 0)), (q4, eI G 40 (fun _ => 0))]) C hw iwX7 tyX7_ok nmX7 B.2.2.2 6 rfl 0 rfl 6 (by decide) kw328 rfl rfl rfl rfl (Nat.le_of_ble_eq_true rfl) rfl dX7_init_33 (fun H locs hw => ?_)
  exact x_retv B hw ⟨q1, q2, q3, q4, rfl⟩ (Nat.le_of_ble_eq_true rfl) (Nat.le_of_ble_eq_true rfl) dX7_init_36
theorem dX1_init_0 : decode cX1_init 0 = .ok (.aload_n 0, 1) := by decide +kernel
theorem dX1_init_1 : decode cX1_init 1 = .ok (.invokespecial 3, 3) := by decide +kernel
theorem dX1_init_4 : decode cX1_init 4 = .ok (.aload_n 0, 1) := by decide +kernel
theorem dX1_init_5 : decode cX1_init 5 = .ok (.bipush 40, 2) := by decide +kernel
theorem dX1_init_7 : decode cX1_init 7 = .ok (.newarray .int, 2) := by decide +kernel
theorem dX1_init_9 : decode cX1_init 9 = .ok (.putfield 9, 3) := by decide +kernel
theorem dX1_init_12 : decode cX1_init 12 = .ok (.aload_n 0, 1) := by decide +kernel
theorem dX1_init_13 : decode cX1_init 13 = .ok (.bipush 40, 2) := by decide +kernel
theorem dX1_init_15 : decode cX1_init 15 = .ok (.newarray .int, 2) := by decide +kernel
theorem dX1_init_17 : decode cX1_init 17 = .ok (.putfield 15, 3) := by decide +kernel
theorem dX1_init_20 : decode cX1_init 20 = .ok (.aload_n 0, 1) := by decide +kernel
theorem dX1_init_21 : decode cX1_init 21 = .ok (.bipush 40, 2) := by decide +kernel
theorem dX1_init_23 : decode cX1_init 23 = .ok (.newarray .int, 2) := by decide +kernel
theorem dX1_init_25 : decode cX1_init 25 = .ok (.putfield 18, 3) := by decide +kernel
theorem dX1_init_28 : decode cX1_init 28 = .ok (.aload_n 0, 1) := by decide +kernel
theorem dX1_init_29 : decode cX1_init 29 = .ok (.bipush 40, 2) := by decide +kernel
theorem dX1_init_31 : decode cX1_init 31 = .ok (.newarray .int, 2) := by decide +kernel
theorem dX1_init_33 : decode cX1_init 33 = .ok (.putfield 21, 3) := by decide +kernel
theorem dX1_init_36 : decode cX1_init 36 = .ok (.return_, 1) := by decide +kernel
-- Book()
set_option maxHeartbeats 4000000 in
set_option maxRecDepth 100000 in
theorem c_X1_init {l : Launch} {G : Gc} (qp : Nat)  : Cv l yX1_init cX1_init 1 1 4 160 G [.ref qp] [(qp, .inr (1, [.null, .null, .null, .null, .int 0, .int 0]))] (fun (u9 : va_W) => ∃ (pkeys : Nat) (pwhos : Nat) (pfirsts : Nat) (pseconds : Nat), u9 = [(qp, .inr (1, [.ref pkeys, .ref pwhos, .ref pfirsts, .ref pseconds, .int 0, .int 0])), (pkeys, eI G 40 (fun _ => 0)), (pwhos, eI G 40 (fun _ => 0)), (pfirsts, eI G 40 (fun _ => 0)), (pseconds, eI G 40 (fun _ => 0))]) := by
  refine Cv.of (by decide) (Nat.le_of_ble_eq_true rfl) ?_
  intro p e s m below meth c ls A B hw hl
  have C : CallFix p m c cX1_init 1 s _ gw "LanternState$Book" := B.1
  have hl : lv_has ls 1 [(0, .ref qp)] := hl
  refine lv_aload_n C.1 C.2.1 dX1_init_0 rfl (lv_at hl 0 rfl) ?_
  refine x_objInit C kw349 hl.1 (Nat.le_of_ble_eq_true rfl) (Nat.le_of_ble_eq_true rfl) dX1_init_1 ?_
  refine lv_aload_n C.1 C.2.1 dX1_init_4 rfl (lv_at hl 0 rfl) ?_
  refine lv_bipush (v := 40) C.1 C.2.1 dX1_init_5 (by decide) ?_
  refine x_newa (a0 := (40, .inl (fun _ => 0))) (N := 40) C hw (atype := .int) rfl 2 rfl kw230 (fun _ => rfl) (by decide) (by decide) (Nat.le_of_ble_eq_true rfl) (Nat.le_of_ble_eq_true rfl) (Nat.le_of_ble_eq_true rfl) dX1_init_7 (fun q1 H hw => ?_)
  have hw : Wd G s A [(qp, .inr (1, [.null, .null, .null, .null, .int 0, .int 0])), (q1, eI G 40 (fun _ => 0))] H _ := hw
  refine W.widen (k := 1) (n := 40) (Nat.le_of_ble_eq_true rfl) (Nat.le_of_ble_eq_true rfl) ?_
  refine x_putF (w' := [(qp, .inr (1, [.ref q1, .null, .null, .null, .int 0, .int 0])), (q1, eI G 40 (fun _ => 0))]) C hw iwX1 tyX1_ok nmX1 B.2.2.2 1 rfl 0 rfl 0 (by decide) kw350 rfl rfl rfl rfl (Nat.le_of_ble_eq_true rfl) rfl dX1_init_9 (fun H locs hw => ?_)
  refine lv_aload_n C.1 C.2.1 dX1_init_12 rfl (lv_at hl 0 rfl) ?_
  refine lv_bipush (v := 40) C.1 C.2.1 dX1_init_13 (by decide) ?_
  refine x_newa (a0 := (40, .inl (fun _ => 0))) (N := 40) C hw (atype := .int) rfl 2 rfl kw230 (fun _ => rfl) (by decide) (by decide) (Nat.le_of_ble_eq_true rfl) (Nat.le_of_ble_eq_true rfl) (Nat.le_of_ble_eq_true rfl) dX1_init_15 (fun q2 H hw => ?_)
  have hw : Wd G s A [(qp, .inr (1, [.ref q1, .null, .null, .null, .int 0, .int 0])), (q1, eI G 40 (fun _ => 0)), (q2, eI G 40 (fun _ => 0))] H _ := hw
  refine W.widen (k := 2) (n := 80) (Nat.le_of_ble_eq_true rfl) (Nat.le_of_ble_eq_true rfl) ?_
  refine x_putF (w' := [(qp, .inr (1, [.ref q1, .ref q2, .null, .null, .int 0, .int 0])), (q1, eI G 40 (fun _ => 0)), (q2, eI G 40 (fun _ => 0))]) C hw iwX1 tyX1_ok nmX1 B.2.2.2 1 rfl 0 rfl 1 (by decide) kw351 rfl rfl rfl rfl (Nat.le_of_ble_eq_true rfl) rfl dX1_init_17 (fun H locs hw => ?_)
  refine lv_aload_n C.1 C.2.1 dX1_init_20 rfl (lv_at hl 0 rfl) ?_
  refine lv_bipush (v := 40) C.1 C.2.1 dX1_init_21 (by decide) ?_
  refine x_newa (a0 := (40, .inl (fun _ => 0))) (N := 40) C hw (atype := .int) rfl 2 rfl kw230 (fun _ => rfl) (by decide) (by decide) (Nat.le_of_ble_eq_true rfl) (Nat.le_of_ble_eq_true rfl) (Nat.le_of_ble_eq_true rfl) dX1_init_23 (fun q3 H hw => ?_)
  have hw : Wd G s A [(qp, .inr (1, [.ref q1, .ref q2, .null, .null, .int 0, .int 0])), (q1, eI G 40 (fun _ => 0)), (q2, eI G 40 (fun _ => 0)), (q3, eI G 40 (fun _ => 0))] H _ := hw
  refine W.widen (k := 3) (n := 120) (Nat.le_of_ble_eq_true rfl) (Nat.le_of_ble_eq_true rfl) ?_
  refine x_putF (w' := [(qp, .inr (1, [.ref q1, .ref q2, .ref q3, .null, .int 0, .int 0])), (q1, eI G 40 (fun _ => 0)), (q2, eI G 40 (fun _ => 0)), (q3, eI G 40 (fun _ => 0))]) C hw iwX1 tyX1_ok nmX1 B.2.2.2 1 rfl 0 rfl 2 (by decide) kw352 rfl rfl rfl rfl (Nat.le_of_ble_eq_true rfl) rfl dX1_init_25 (fun H locs hw => ?_)
  refine lv_aload_n C.1 C.2.1 dX1_init_28 rfl (lv_at hl 0 rfl) ?_
  refine lv_bipush (v := 40) C.1 C.2.1 dX1_init_29 (by decide) ?_
  refine x_newa (a0 := (40, .inl (fun _ => 0))) (N := 40) C hw (atype := .int) rfl 2 rfl kw230 (fun _ => rfl) (by decide) (by decide) (Nat.le_of_ble_eq_true rfl) (Nat.le_of_ble_eq_true rfl) (Nat.le_of_ble_eq_true rfl) dX1_init_31 (fun q4 H hw => ?_)
  have hw : Wd G s A [(qp, .inr (1, [.ref q1, .ref q2, .ref q3, .null, .int 0, .int 0])), (q1, eI G 40 (fun _ => 0)), (q2, eI G 40 (fun _ => 0)), (q3, eI G 40 (fun _ => 0)), (q4, eI G 40 (fun _ => 0))] H _ := hw
  refine W.widen (k := 4) (n := 160) (Nat.le_of_ble_eq_true rfl) (Nat.le_of_ble_eq_true rfl) ?_
  refine x_putF (w' := [(qp, .inr (1, [.ref q1, .ref q2, .ref q3, .ref q4, .int 0, .int 0])), (q1, eI G 40 (fun _ => 0)), (q2, eI G 40 (fun _ => 0)), (q3, eI G 40 (fun _ => 0)), (q4, eI G 40 (fun _ => 0))]) C hw iwX1 tyX1_ok nmX1 B.2.2.2 1 rfl 0 rfl 3 (by decide) kw353 rfl rfl rfl rfl (Nat.le_of_ble_eq_true rfl) rfl dX1_init_33 (fun H locs hw => ?_)
  exact x_retv B hw ⟨q1, q2, q3, q4, rfl⟩ (Nat.le_of_ble_eq_true rfl) (Nat.le_of_ble_eq_true rfl) dX1_init_36
theorem dX6_init_0 : decode cX6_init 0 = .ok (.aload_n 0, 1) := by decide +kernel
theorem dX6_init_1 : decode cX6_init 1 = .ok (.invokespecial 3, 3) := by decide +kernel
theorem dX6_init_4 : decode cX6_init 4 = .ok (.aload_n 0, 1) := by decide +kernel
theorem dX6_init_5 : decode cX6_init 5 = .ok (.bipush 6, 2) := by decide +kernel
theorem dX6_init_7 : decode cX6_init 7 = .ok (.newarray .int, 2) := by decide +kernel
theorem dX6_init_9 : decode cX6_init 9 = .ok (.putfield 9, 3) := by decide +kernel
theorem dX6_init_12 : decode cX6_init 12 = .ok (.aload_n 0, 1) := by decide +kernel
theorem dX6_init_13 : decode cX6_init 13 = .ok (.bipush 6, 2) := by decide +kernel
theorem dX6_init_15 : decode cX6_init 15 = .ok (.newarray .int, 2) := by decide +kernel
theorem dX6_init_17 : decode cX6_init 17 = .ok (.putfield 15, 3) := by decide +kernel
theorem dX6_init_20 : decode cX6_init 20 = .ok (.return_, 1) := by decide +kernel
-- Search()
set_option maxHeartbeats 4000000 in
set_option maxRecDepth 100000 in
theorem c_X6_init {l : Launch} {G : Gc} (qf : Nat)  : Cv l yX6_init cX6_init 1 1 2 12 G [.ref qf] [(qf, .inr (5, [.null, .int 0, .int 0, .null, .int 0, .int 0, .int 0]))] (fun (u9 : va_W) => ∃ (fbestPath : Nat) (fpath : Nat), u9 = [(qf, .inr (5, [.ref fbestPath, .int 0, .int 0, .ref fpath, .int 0, .int 0, .int 0])), (fbestPath, eI G 6 (fun _ => 0)), (fpath, eI G 6 (fun _ => 0))]) := by
  refine Cv.of (by decide) (Nat.le_of_ble_eq_true rfl) ?_
  intro p e s m below meth c ls A B hw hl
  have C : CallFix p m c cX6_init 1 s _ gw "LanternState$Search" := B.1
  have hl : lv_has ls 1 [(0, .ref qf)] := hl
  refine lv_aload_n C.1 C.2.1 dX6_init_0 rfl (lv_at hl 0 rfl) ?_
  refine x_objInit C kw376 hl.1 (Nat.le_of_ble_eq_true rfl) (Nat.le_of_ble_eq_true rfl) dX6_init_1 ?_
  refine lv_aload_n C.1 C.2.1 dX6_init_4 rfl (lv_at hl 0 rfl) ?_
  refine lv_bipush (v := 6) C.1 C.2.1 dX6_init_5 (by decide) ?_
  refine x_newa (a0 := (6, .inl (fun _ => 0))) (N := 6) C hw (atype := .int) rfl 2 rfl kw230 (fun _ => rfl) (by decide) (by decide) (Nat.le_of_ble_eq_true rfl) (Nat.le_of_ble_eq_true rfl) (Nat.le_of_ble_eq_true rfl) dX6_init_7 (fun q1 H hw => ?_)
  have hw : Wd G s A [(qf, .inr (5, [.null, .int 0, .int 0, .null, .int 0, .int 0, .int 0])), (q1, eI G 6 (fun _ => 0))] H _ := hw
  refine W.widen (k := 1) (n := 6) (Nat.le_of_ble_eq_true rfl) (Nat.le_of_ble_eq_true rfl) ?_
  refine x_putF (w' := [(qf, .inr (5, [.ref q1, .int 0, .int 0, .null, .int 0, .int 0, .int 0])), (q1, eI G 6 (fun _ => 0))]) C hw iwX6 tyX6_ok nmX6 B.2.2.2 5 rfl 0 rfl 0 (by decide) kw377 rfl rfl rfl rfl (Nat.le_of_ble_eq_true rfl) rfl dX6_init_9 (fun H locs hw => ?_)
  refine lv_aload_n C.1 C.2.1 dX6_init_12 rfl (lv_at hl 0 rfl) ?_
  refine lv_bipush (v := 6) C.1 C.2.1 dX6_init_13 (by decide) ?_
  refine x_newa (a0 := (6, .inl (fun _ => 0))) (N := 6) C hw (atype := .int) rfl 2 rfl kw230 (fun _ => rfl) (by decide) (by decide) (Nat.le_of_ble_eq_true rfl) (Nat.le_of_ble_eq_true rfl) (Nat.le_of_ble_eq_true rfl) dX6_init_15 (fun q2 H hw => ?_)
  have hw : Wd G s A [(qf, .inr (5, [.ref q1, .int 0, .int 0, .null, .int 0, .int 0, .int 0])), (q1, eI G 6 (fun _ => 0)), (q2, eI G 6 (fun _ => 0))] H _ := hw
  refine W.widen (k := 2) (n := 12) (Nat.le_of_ble_eq_true rfl) (Nat.le_of_ble_eq_true rfl) ?_
  refine x_putF (w' := [(qf, .inr (5, [.ref q1, .int 0, .int 0, .ref q2, .int 0, .int 0, .int 0])), (q1, eI G 6 (fun _ => 0)), (q2, eI G 6 (fun _ => 0))]) C hw iwX6 tyX6_ok nmX6 B.2.2.2 5 rfl 0 rfl 3 (by decide) kw382 rfl rfl rfl rfl (Nat.le_of_ble_eq_true rfl) rfl dX6_init_17 (fun H locs hw => ?_)
  exact x_retv B hw ⟨q1, q2, rfl⟩ (Nat.le_of_ble_eq_true rfl) (Nat.le_of_ble_eq_true rfl) dX6_init_20
theorem dX0_init_0 : decode cX0_init 0 = .ok (.aload_n 0, 1) := by decide +kernel
theorem dX0_init_1 : decode cX0_init 1 = .ok (.invokespecial 3, 3) := by decide +kernel
theorem dX0_init_4 : decode cX0_init 4 = .ok (.aload_n 0, 1) := by decide +kernel
theorem dX0_init_5 : decode cX0_init 5 = .ok (.bipush 40, 2) := by decide +kernel
theorem dX0_init_7 : decode cX0_init 7 = .ok (.newarray .char, 2) := by decide +kernel
theorem dX0_init_9 : decode cX0_init 9 = .ok (.putfield 11, 3) := by decide +kernel
theorem dX0_init_12 : decode cX0_init 12 = .ok (.return_, 1) := by decide +kernel
-- Bill()
set_option maxHeartbeats 4000000 in
set_option maxRecDepth 100000 in
theorem c_X0_init {l : Launch} {G : Gc} (qn : Nat)  : Cv l yX0_init cX0_init 1 1 1 40 G [.ref qn] [(qn, .inr (0, [.null, .int 0]))] (fun (u9 : va_W) => ∃ (nletters : Nat), u9 = [(qn, .inr (0, [.ref nletters, .int 0])), (nletters, eC G 40 (fun _ => 0))]) := by
  refine Cv.of (by decide) (Nat.le_of_ble_eq_true rfl) ?_
  intro p e s m below meth c ls A B hw hl
  have C : CallFix p m c cX0_init 1 s _ gw "LanternState$Bill" := B.1
  have hl : lv_has ls 1 [(0, .ref qn)] := hl
  refine lv_aload_n C.1 C.2.1 dX0_init_0 rfl (lv_at hl 0 rfl) ?_
  refine x_objInit C kw406 hl.1 (Nat.le_of_ble_eq_true rfl) (Nat.le_of_ble_eq_true rfl) dX0_init_1 ?_
  refine lv_aload_n C.1 C.2.1 dX0_init_4 rfl (lv_at hl 0 rfl) ?_
  refine lv_bipush (v := 40) C.1 C.2.1 dX0_init_5 (by decide) ?_
  refine x_newa (a0 := (40, .inl (fun _ => 0))) (N := 40) C hw (atype := .char) rfl 1 rfl kw416 (fun _ => rfl) (by decide) (by decide) (Nat.le_of_ble_eq_true rfl) (Nat.le_of_ble_eq_true rfl) (Nat.le_of_ble_eq_true rfl) dX0_init_7 (fun q1 H hw => ?_)
  have hw : Wd G s A [(qn, .inr (0, [.null, .int 0])), (q1, eC G 40 (fun _ => 0))] H _ := hw
  refine W.widen (k := 1) (n := 40) (Nat.le_of_ble_eq_true rfl) (Nat.le_of_ble_eq_true rfl) ?_
  refine x_putF (w' := [(qn, .inr (0, [.ref q1, .int 0])), (q1, eC G 40 (fun _ => 0))]) C hw iwX0 tyX0_ok nmX0 B.2.2.2 0 rfl 0 rfl 0 (by decide) kw407 rfl rfl rfl rfl (Nat.le_of_ble_eq_true rfl) rfl dX0_init_9 (fun H locs hw => ?_)
  exact x_retv B hw ⟨q1, rfl⟩ (Nat.le_of_ble_eq_true rfl) (Nat.le_of_ble_eq_true rfl) dX0_init_12
theorem dX3_init_0 : decode cX3_init 0 = .ok (.aload_n 0, 1) := by decide +kernel
theorem dX3_init_1 : decode cX3_init 1 = .ok (.invokespecial 1, 3) := by decide +kernel
theorem dX3_init_4 : decode cX3_init 4 = .ok (.aload_n 0, 1) := by decide +kernel
theorem dX3_init_5 : decode cX3_init 5 = .ok (.new 7, 3) := by decide +kernel
theorem dX3_init_8 : decode cX3_init 8 = .ok (.dup, 1) := by decide +kernel
theorem dX3_init_9 : decode cX3_init 9 = .ok (.invokespecial 9, 3) := by decide +kernel
theorem mwX5_init : MwI yX5_init cX5_init 1 0 := ⟨⟨kw145, kw7, by decide +kernel⟩, rfl, kw144⟩
theorem dX3_init_12 : decode cX3_init 12 = .ok (.putfield 10, 3) := by decide +kernel
theorem dX3_init_15 : decode cX3_init 15 = .ok (.aload_n 0, 1) := by decide +kernel
theorem dX3_init_16 : decode cX3_init 16 = .ok (.new 16, 3) := by decide +kernel
theorem dX3_init_19 : decode cX3_init 19 = .ok (.dup, 1) := by decide +kernel
theorem dX3_init_20 : decode cX3_init 20 = .ok (.invokespecial 18, 3) := by decide +kernel
theorem mwX8_init : MwI yX8_init cX8_init 1 0 := ⟨⟨kw235, kw8, by decide +kernel⟩, rfl, kw234⟩
theorem dX3_init_23 : decode cX3_init 23 = .ok (.putfield 19, 3) := by decide +kernel
theorem dX3_init_26 : decode cX3_init 26 = .ok (.aload_n 0, 1) := by decide +kernel
theorem dX3_init_27 : decode cX3_init 27 = .ok (.new 23, 3) := by decide +kernel
theorem dX3_init_30 : decode cX3_init 30 = .ok (.dup, 1) := by decide +kernel
theorem dX3_init_31 : decode cX3_init 31 = .ok (.invokespecial 25, 3) := by decide +kernel
theorem mwX7_init : MwI yX7_init cX7_init 1 0 := ⟨⟨kw318, kw10, by decide +kernel⟩, rfl, kw317⟩
theorem dX3_init_34 : decode cX3_init 34 = .ok (.putfield 26, 3) := by decide +kernel
theorem dX3_init_37 : decode cX3_init 37 = .ok (.return_, 1) := by decide +kernel
-- Image()
set_option maxHeartbeats 4000000 in
set_option maxRecDepth 100000 in
theorem c_X3_init {l : Launch} {G : Gc} (qi : Nat)  : Cv l yX3_init cX3_init 1 2 19 280 G [.ref qi] [(qi, .inr (3, [.int 0, .null, .null, .null]))] (fun (u9 : va_W) => ∃ (is : Nat) (isslideNames : Nat) (ispictures : Nat) (isheats : Nat) (isafter : Nat) (ishearerNames : Nat) (isneeds : Nat) (islikes : Nat) (ishates : Nat) (isnear : Nat) (ia : Nat) (iapictures : Nat) (iashown : Nat) (iasighed : Nat) (ir : Nat) (irkeys : Nat) (irsigns : Nat) (irnumbers : Nat) (irstack : Nat), u9 = [(qi, .inr (3, [.int 0, .ref is, .ref ia, .ref ir])), (is, .inr (4, [.int 0, .int 0, .int 0, .int 0, .int 1, .int 0, .int 40, .int 0, .int 0, .ref isslideNames, .ref ispictures, .ref isheats, .ref isafter, .ref ishearerNames, .ref isneeds, .ref islikes, .ref ishates, .ref isnear])), (isslideNames, eJ G 6 (fun _ => 0)), (ispictures, eI G 6 (fun _ => 0)), (isheats, eI G 6 (fun _ => 0)), (isafter, eI G 6 (fun _ => 0)), (ishearerNames, eJ G 8 (fun _ => 0)), (isneeds, eI G 8 (fun _ => 0)), (islikes, eI G 8 (fun _ => 0)), (ishates, eI G 8 (fun _ => 0)), (isnear, eI G 8 (fun _ => 0)), (ia, .inr (7, [.int 0, .int 0, .int 0, .int 0, .int 0, .int 0, .int 0, .int 0, .ref iapictures, .ref iashown, .ref iasighed])), (iapictures, eI G 6 (fun _ => 0)), (iashown, eI G 6 (fun _ => 0)), (iasighed, eI G 8 (fun _ => 0)), (ir, .inr (6, [.int 0, .int 0, .int 0, .ref irkeys, .ref irsigns, .ref irnumbers, .ref irstack])), (irkeys, eI G 40 (fun _ => 0)), (irsigns, eI G 40 (fun _ => 0)), (irnumbers, eI G 40 (fun _ => 0)), (irstack, eI G 40 (fun _ => 0))]) := by
  refine Cv.of (by decide) (Nat.le_of_ble_eq_true rfl) ?_
  intro p e s m below meth c ls A B hw hl
  have C : CallFix p m c cX3_init 1 s _ gw "LanternState$Image" := B.1
  have hl : lv_has ls 1 [(0, .ref qi)] := hl
  refine lv_aload_n C.1 C.2.1 dX3_init_0 rfl (lv_at hl 0 rfl) ?_
  refine x_objInit C kw423 hl.1 (Nat.le_of_ble_eq_true rfl) (Nat.le_of_ble_eq_true rfl) dX3_init_1 ?_
  refine lv_aload_n C.1 C.2.1 dX3_init_4 rfl (lv_at hl 0 rfl) ?_
  refine x_new (fs := [.int 0, .int 0, .int 0, .int 0, .int 0, .int 0, .int 0, .int 0, .int 0, .null, .null, .null, .null, .null, .null, .null, .null, .null]) C hw iwX5 tyX5_ok 4 rfl kw424 kw142 kw7 (by decide +kernel) (Nat.le_of_ble_eq_true rfl) (Nat.le_of_ble_eq_true rfl) dX3_init_5 (fun q1 H hw => ?_)
  have hw : Wd G s A [(qi, .inr (3, [.int 0, .null, .null, .null])), (q1, .inr (4, [.int 0, .int 0, .int 0, .int 0, .int 0, .int 0, .int 0, .int 0, .int 0, .null, .null, .null, .null, .null, .null, .null, .null, .null]))] H _ := hw
  refine W.widen (k := 1) (n := 18) (Nat.le_of_ble_eq_true rfl) (Nat.le_of_ble_eq_true rfl) ?_
  refine lv_dup C.1 C.2.1 dX3_init_8 rfl ?_
  refine x_callvIN (As := []) (rest := [.ref q1, .ref qi]) (wr := [(qi, .inr (3, [.int 0, .null, .null, .null]))]) C hw (c_X5_init q1) mwX5_init (nst8 hw.1) [1] [0] rfl rfl rfl rfl (by decide) rfl hl.1 rfl (Nat.le_of_ble_eq_true rfl) ⟨(Nat.le_of_ble_eq_true rfl), (Nat.le_of_ble_eq_true rfl)⟩ ⟨(Nat.le_of_ble_eq_true rfl), (Nat.le_of_ble_eq_true rfl)⟩ dX3_init_9 (fun  u9 H locs hp9 hw => ?_)
  obtain ⟨sslideNames_2, spictures_3, sheats_4, safter_5, shearerNames_6, sneeds_7, slikes_8, shates_9, snear_10, rfl⟩ := hp9
  have hw : Wd G s A [(qi, .inr (3, [.int 0, .null, .null, .null])), (q1, .inr (4, [.int 0, .int 0, .int 0, .int 0, .int 1, .int 0, .int 40, .int 0, .int 0, .ref sslideNames_2, .ref spictures_3, .ref sheats_4, .ref safter_5, .ref shearerNames_6, .ref sneeds_7, .ref slikes_8, .ref shates_9, .ref snear_10])), (sslideNames_2, eJ G 6 (fun _ => 0)), (spictures_3, eI G 6 (fun _ => 0)), (sheats_4, eI G 6 (fun _ => 0)), (safter_5, eI G 6 (fun _ => 0)), (shearerNames_6, eJ G 8 (fun _ => 0)), (sneeds_7, eI G 8 (fun _ => 0)), (slikes_8, eI G 8 (fun _ => 0)), (shates_9, eI G 8 (fun _ => 0)), (snear_10, eI G 8 (fun _ => 0))] H _ := hw
  refine W.widen (k := 10) (n := 82) (Nat.le_of_ble_eq_true rfl) (Nat.le_of_ble_eq_true rfl) ?_
  refine x_putF (w' := [(qi, .inr (3, [.int 0, .ref q1, .null, .null])), (q1, .inr (4, [.int 0, .int 0, .int 0, .int 0, .int 1, .int 0, .int 40, .int 0, .int 0, .ref sslideNames_2, .ref spictures_3, .ref sheats_4, .ref safter_5, .ref shearerNames_6, .ref sneeds_7, .ref slikes_8, .ref shates_9, .ref snear_10])), (sslideNames_2, eJ G 6 (fun _ => 0)), (spictures_3, eI G 6 (fun _ => 0)), (sheats_4, eI G 6 (fun _ => 0)), (safter_5, eI G 6 (fun _ => 0)), (shearerNames_6, eJ G 8 (fun _ => 0)), (sneeds_7, eI G 8 (fun _ => 0)), (slikes_8, eI G 8 (fun _ => 0)), (shates_9, eI G 8 (fun _ => 0)), (snear_10, eI G 8 (fun _ => 0))]) C hw iwX3 tyX3_ok nmX3 B.2.2.2 3 rfl 0 rfl 1 (by decide) kw431 rfl rfl rfl rfl (Nat.le_of_ble_eq_true rfl) rfl dX3_init_12 (fun H locs hw => ?_)
  refine lv_aload_n C.1 C.2.1 dX3_init_15 rfl (lv_at hl 0 rfl) ?_
  refine x_new (fs := [.int 0, .int 0, .int 0, .int 0, .int 0, .int 0, .int 0, .int 0, .null, .null, .null]) C hw iwX8 tyX8_ok 7 rfl kw426 kw232 kw8 (by decide +kernel) (Nat.le_of_ble_eq_true rfl) (Nat.le_of_ble_eq_true rfl) dX3_init_16 (fun q11 H hw => ?_)
  have hw : Wd G s A [(qi, .inr (3, [.int 0, .ref q1, .null, .null])), (q1, .inr (4, [.int 0, .int 0, .int 0, .int 0, .int 1, .int 0, .int 40, .int 0, .int 0, .ref sslideNames_2, .ref spictures_3, .ref sheats_4, .ref safter_5, .ref shearerNames_6, .ref sneeds_7, .ref slikes_8, .ref shates_9, .ref snear_10])), (sslideNames_2, eJ G 6 (fun _ => 0)), (spictures_3, eI G 6 (fun _ => 0)), (sheats_4, eI G 6 (fun _ => 0)), (safter_5, eI G 6 (fun _ => 0)), (shearerNames_6, eJ G 8 (fun _ => 0)), (sneeds_7, eI G 8 (fun _ => 0)), (slikes_8, eI G 8 (fun _ => 0)), (shates_9, eI G 8 (fun _ => 0)), (snear_10, eI G 8 (fun _ => 0)), (q11, .inr (7, [.int 0, .int 0, .int 0, .int 0, .int 0, .int 0, .int 0, .int 0, .null, .null, .null]))] H _ := hw
  refine W.widen (k := 11) (n := 93) (Nat.le_of_ble_eq_true rfl) (Nat.le_of_ble_eq_true rfl) ?_
  refine lv_dup C.1 C.2.1 dX3_init_19 rfl ?_
  refine x_callvIN (As := []) (rest := [.ref q11, .ref qi]) (wr := [(qi, .inr (3, [.int 0, .ref q1, .null, .null])), (q1, .inr (4, [.int 0, .int 0, .int 0, .int 0, .int 1, .int 0, .int 40, .int 0, .int 0, .ref sslideNames_2, .ref spictures_3, .ref sheats_4, .ref safter_5, .ref shearerNames_6, .ref sneeds_7, .ref slikes_8, .ref shates_9, .ref snear_10])), (sslideNames_2, eJ G 6 (fun _ => 0)), (spictures_3, eI G 6 (fun _ => 0)), (sheats_4, eI G 6 (fun _ => 0)), (safter_5, eI G 6 (fun _ => 0)), (shearerNames_6, eJ G 8 (fun _ => 0)), (sneeds_7, eI G 8 (fun _ => 0)), (slikes_8, eI G 8 (fun _ => 0)), (shates_9, eI G 8 (fun _ => 0)), (snear_10, eI G 8 (fun _ => 0))]) C hw (c_X8_init q11) mwX8_init (nst9 hw.1) [11] [0, 1, 2, 3, 4, 5, 6, 7, 8, 9, 10] rfl rfl rfl rfl (by decide) rfl hl.1 rfl (Nat.le_of_ble_eq_true rfl) ⟨(Nat.le_of_ble_eq_true rfl), (Nat.le_of_ble_eq_true rfl)⟩ ⟨(Nat.le_of_ble_eq_true rfl), (Nat.le_of_ble_eq_true rfl)⟩ dX3_init_20 (fun  u9 H locs hp9 hw => ?_)
  obtain ⟨apictures_12, ashown_13, asighed_14, rfl⟩ := hp9
  have hw : Wd G s A [(qi, .inr (3, [.int 0, .ref q1, .null, .null])), (q1, .inr (4, [.int 0, .int 0, .int 0, .int 0, .int 1, .int 0, .int 40, .int 0, .int 0, .ref sslideNames_2, .ref spictures_3, .ref sheats_4, .ref safter_5, .ref shearerNames_6, .ref sneeds_7, .ref slikes_8, .ref shates_9, .ref snear_10])), (sslideNames_2, eJ G 6 (fun _ => 0)), (spictures_3, eI G 6 (fun _ => 0)), (sheats_4, eI G 6 (fun _ => 0)), (safter_5, eI G 6 (fun _ => 0)), (shearerNames_6, eJ G 8 (fun _ => 0)), (sneeds_7, eI G 8 (fun _ => 0)), (slikes_8, eI G 8 (fun _ => 0)), (shates_9, eI G 8 (fun _ => 0)), (snear_10, eI G 8 (fun _ => 0)), (q11, .inr (7, [.int 0, .int 0, .int 0, .int 0, .int 0, .int 0, .int 0, .int 0, .ref apictures_12, .ref ashown_13, .ref asighed_14])), (apictures_12, eI G 6 (fun _ => 0)), (ashown_13, eI G 6 (fun _ => 0)), (asighed_14, eI G 8 (fun _ => 0))] H _ := hw
  refine W.widen (k := 14) (n := 113) (Nat.le_of_ble_eq_true rfl) (Nat.le_of_ble_eq_true rfl) ?_
  refine x_putF (w' := [(qi, .inr (3, [.int 0, .ref q1, .ref q11, .null])), (q1, .inr (4, [.int 0, .int 0, .int 0, .int 0, .int 1, .int 0, .int 40, .int 0, .int 0, .ref sslideNames_2, .ref spictures_3, .ref sheats_4, .ref safter_5, .ref shearerNames_6, .ref sneeds_7, .ref slikes_8, .ref shates_9, .ref snear_10])), (sslideNames_2, eJ G 6 (fun _ => 0)), (spictures_3, eI G 6 (fun _ => 0)), (sheats_4, eI G 6 (fun _ => 0)), (safter_5, eI G 6 (fun _ => 0)), (shearerNames_6, eJ G 8 (fun _ => 0)), (sneeds_7, eI G 8 (fun _ => 0)), (slikes_8, eI G 8 (fun _ => 0)), (shates_9, eI G 8 (fun _ => 0)), (snear_10, eI G 8 (fun _ => 0)), (q11, .inr (7, [.int 0, .int 0, .int 0, .int 0, .int 0, .int 0, .int 0, .int 0, .ref apictures_12, .ref ashown_13, .ref asighed_14])), (apictures_12, eI G 6 (fun _ => 0)), (ashown_13, eI G 6 (fun _ => 0)), (asighed_14, eI G 8 (fun _ => 0))]) C hw iwX3 tyX3_ok nmX3 B.2.2.2 3 rfl 0 rfl 2 (by decide) kw433 rfl rfl rfl rfl (Nat.le_of_ble_eq_true rfl) rfl dX3_init_23 (fun H locs hw => ?_)
  refine lv_aload_n C.1 C.2.1 dX3_init_26 rfl (lv_at hl 0 rfl) ?_
  refine x_new (fs := [.int 0, .int 0, .int 0, .null, .null, .null, .null]) C hw iwX7 tyX7_ok 6 rfl kw428 kw315 kw10 (by decide +kernel) (Nat.le_of_ble_eq_true rfl) (Nat.le_of_ble_eq_true rfl) dX3_init_27 (fun q15 H hw => ?_)
  have hw : Wd G s A [(qi, .inr (3, [.int 0, .ref q1, .ref q11, .null])), (q1, .inr (4, [.int 0, .int 0, .int 0, .int 0, .int 1, .int 0, .int 40, .int 0, .int 0, .ref sslideNames_2, .ref spictures_3, .ref sheats_4, .ref safter_5, .ref shearerNames_6, .ref sneeds_7, .ref slikes_8, .ref shates_9, .ref snear_10])), (sslideNames_2, eJ G 6 (fun _ => 0)), (spictures_3, eI G 6 (fun _ => 0)), (sheats_4, eI G 6 (fun _ => 0)), (safter_5, eI G 6 (fun _ => 0)), (shearerNames_6, eJ G 8 (fun _ => 0)), (sneeds_7, eI G 8 (fun _ => 0)), (slikes_8, eI G 8 (fun _ => 0)), (shates_9, eI G 8 (fun _ => 0)), (snear_10, eI G 8 (fun _ => 0)), (q11, .inr (7, [.int 0, .int 0, .int 0, .int 0, .int 0, .int 0, .int 0, .int 0, .ref apictures_12, .ref ashown_13, .ref asighed_14])), (apictures_12, eI G 6 (fun _ => 0)), (ashown_13, eI G 6 (fun _ => 0)), (asighed_14, eI G 8 (fun _ => 0)), (q15, .inr (6, [.int 0, .int 0, .int 0, .null, .null, .null, .null]))] H _ := hw
  refine W.widen (k := 15) (n := 120) (Nat.le_of_ble_eq_true rfl) (Nat.le_of_ble_eq_true rfl) ?_
  refine lv_dup C.1 C.2.1 dX3_init_30 rfl ?_
  refine x_callvIN (As := []) (rest := [.ref q15, .ref qi]) (wr := [(qi, .inr (3, [.int 0, .ref q1, .ref q11, .null])), (q1, .inr (4, [.int 0, .int 0, .int 0, .int 0, .int 1, .int 0, .int 40, .int 0, .int 0, .ref sslideNames_2, .ref spictures_3, .ref sheats_4, .ref safter_5, .ref shearerNames_6, .ref sneeds_7, .ref slikes_8, .ref shates_9, .ref snear_10])), (sslideNames_2, eJ G 6 (fun _ => 0)), (spictures_3, eI G 6 (fun _ => 0)), (sheats_4, eI G 6 (fun _ => 0)), (safter_5, eI G 6 (fun _ => 0)), (shearerNames_6, eJ G 8 (fun _ => 0)), (sneeds_7, eI G 8 (fun _ => 0)), (slikes_8, eI G 8 (fun _ => 0)), (shates_9, eI G 8 (fun _ => 0)), (snear_10, eI G 8 (fun _ => 0)), (q11, .inr (7, [.int 0, .int 0, .int 0, .int 0, .int 0, .int 0, .int 0, .int 0, .ref apictures_12, .ref ashown_13, .ref asighed_14])), (apictures_12, eI G 6 (fun _ => 0)), (ashown_13, eI G 6 (fun _ => 0)), (asighed_14, eI G 8 (fun _ => 0))]) C hw (c_X7_init q15) mwX7_init (nst10 hw.1) [15] [0, 1, 2, 3, 4, 5, 6, 7, 8, 9, 10, 11, 12, 13, 14] rfl rfl rfl rfl (by decide) rfl hl.1 rfl (Nat.le_of_ble_eq_true rfl) ⟨(Nat.le_of_ble_eq_true rfl), (Nat.le_of_ble_eq_true rfl)⟩ ⟨(Nat.le_of_ble_eq_true rfl), (Nat.le_of_ble_eq_true rfl)⟩ dX3_init_31 (fun  u9 H locs hp9 hw => ?_)
  obtain ⟨rkeys_16, rsigns_17, rnumbers_18, rstack_19, rfl⟩ := hp9
  have hw : Wd G s A [(qi, .inr (3, [.int 0, .ref q1, .ref q11, .null])), (q1, .inr (4, [.int 0, .int 0, .int 0, .int 0, .int 1, .int 0, .int 40, .int 0, .int 0, .ref sslideNames_2, .ref spictures_3, .ref sheats_4, .ref safter_5, .ref shearerNames_6, .ref sneeds_7, .ref slikes_8, .ref shates_9, .ref snear_10])), (sslideNames_2, eJ G 6 (fun _ => 0)), (spictures_3, eI G 6 (fun _ => 0)), (sheats_4, eI G 6 (fun _ => 0)), (safter_5, eI G 6 (fun _ => 0)), (shearerNames_6, eJ G 8 (fun _ => 0)), (sneeds_7, eI G 8 (fun _ => 0)), (slikes_8, eI G 8 (fun _ => 0)), (shates_9, eI G 8 (fun _ => 0)), (snear_10, eI G 8 (fun _ => 0)), (q11, .inr (7, [.int 0, .int 0, .int 0, .int 0, .int 0, .int 0, .int 0, .int 0, .ref apictures_12, .ref ashown_13, .ref asighed_14])), (apictures_12, eI G 6 (fun _ => 0)), (ashown_13, eI G 6 (fun _ => 0)), (asighed_14, eI G 8 (fun _ => 0)), (q15, .inr (6, [.int 0, .int 0, .int 0, .ref rkeys_16, .ref rsigns_17, .ref rnumbers_18, .ref rstack_19])), (rkeys_16, eI G 40 (fun _ => 0)), (rsigns_17, eI G 40 (fun _ => 0)), (rnumbers_18, eI G 40 (fun _ => 0)), (rstack_19, eI G 40 (fun _ => 0))] H _ := hw
  refine W.widen (k := 19) (n := 280) (Nat.le_of_ble_eq_true rfl) (Nat.le_of_ble_eq_true rfl) ?_
  refine x_putF (w' := [(qi, .inr (3, [.int 0, .ref q1, .ref q11, .ref q15])), (q1, .inr (4, [.int 0, .int 0, .int 0, .int 0, .int 1, .int 0, .int 40, .int 0, .int 0, .ref sslideNames_2, .ref spictures_3, .ref sheats_4, .ref safter_5, .ref shearerNames_6, .ref sneeds_7, .ref slikes_8, .ref shates_9, .ref snear_10])), (sslideNames_2, eJ G 6 (fun _ => 0)), (spictures_3, eI G 6 (fun _ => 0)), (sheats_4, eI G 6 (fun _ => 0)), (safter_5, eI G 6 (fun _ => 0)), (shearerNames_6, eJ G 8 (fun _ => 0)), (sneeds_7, eI G 8 (fun _ => 0)), (slikes_8, eI G 8 (fun _ => 0)), (shates_9, eI G 8 (fun _ => 0)), (snear_10, eI G 8 (fun _ => 0)), (q11, .inr (7, [.int 0, .int 0, .int 0, .int 0, .int 0, .int 0, .int 0, .int 0, .ref apictures_12, .ref ashown_13, .ref asighed_14])), (apictures_12, eI G 6 (fun _ => 0)), (ashown_13, eI G 6 (fun _ => 0)), (asighed_14, eI G 8 (fun _ => 0)), (q15, .inr (6, [.int 0, .int 0, .int 0, .ref rkeys_16, .ref rsigns_17, .ref rnumbers_18, .ref rstack_19])), (rkeys_16, eI G 40 (fun _ => 0)), (rsigns_17, eI G 40 (fun _ => 0)), (rnumbers_18, eI G 40 (fun _ => 0)), (rstack_19, eI G 40 (fun _ => 0))]) C hw iwX3 tyX3_ok nmX3 B.2.2.2 3 rfl 0 rfl 3 (by decide) kw435 rfl rfl rfl rfl (Nat.le_of_ble_eq_true rfl) rfl dX3_init_34 (fun H locs hw => ?_)
  exact x_retv B hw ⟨q1, sslideNames_2, spictures_3, sheats_4, safter_5, shearerNames_6, sneeds_7, slikes_8, shates_9, snear_10, q11, apictures_12, ashown_13, asighed_14, q15, rkeys_16, rsigns_17, rnumbers_18, rstack_19, rfl⟩ (Nat.le_of_ble_eq_true rfl) (Nat.le_of_ble_eq_true rfl) dX3_init_37
