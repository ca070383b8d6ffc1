-- needs: 4
theorem dX8_begin_0 : decode cX8_begin 0 = .ok (.aload_n 0, 1) := by decide +kernel
theorem dX8_begin_1 : decode cX8_begin 1 = .ok (.iconst 0, 1) := by decide +kernel
theorem dX8_begin_2 : decode cX8_begin 2 = .ok (.putfield 21, 3) := by decide +kernel
theorem dX8_begin_5 : decode cX8_begin 5 = .ok (.aload_n 0, 1) := by decide +kernel
theorem dX8_begin_6 : decode cX8_begin 6 = .ok (.iconst 0, 1) := by decide +kernel
theorem dX8_begin_7 : decode cX8_begin 7 = .ok (.putfield 25, 3) := by decide +kernel
theorem dX8_begin_10 : decode cX8_begin 10 = .ok (.aload_n 0, 1) := by decide +kernel
theorem dX8_begin_11 : decode cX8_begin 11 = .ok (.iconst 0, 1) := by decide +kernel
theorem dX8_begin_12 : decode cX8_begin 12 = .ok (.putfield 28, 3) := by decide +kernel
theorem dX8_begin_15 : decode cX8_begin 15 = .ok (.aload_n 0, 1) := by decide +kernel
theorem dX8_begin_16 : decode cX8_begin 16 = .ok (.iconst 0, 1) := by decide +kernel
theorem dX8_begin_17 : decode cX8_begin 17 = .ok (.putfield 32, 3) := by decide +kernel
theorem dX8_begin_20 : decode cX8_begin 20 = .ok (.aload_n 0, 1) := by decide +kernel
theorem dX8_begin_21 : decode cX8_begin 21 = .ok (.iconst 0, 1) := by decide +kernel
theorem dX8_begin_22 : decode cX8_begin 22 = .ok (.putfield 35, 3) := by decide +kernel
theorem dX8_begin_25 : decode cX8_begin 25 = .ok (.aload_n 0, 1) := by decide +kernel
theorem dX8_begin_26 : decode cX8_begin 26 = .ok (.aload_n 1, 1) := by decide +kernel
theorem dX8_begin_27 : decode cX8_begin 27 = .ok (.getfield 38, 3) := by decide +kernel
theorem dX8_begin_30 : decode cX8_begin 30 = .ok (.putfield 43, 3) := by decide +kernel
theorem dX8_begin_33 : decode cX8_begin 33 = .ok (.aload_n 0, 1) := by decide +kernel
theorem dX8_begin_34 : decode cX8_begin 34 = .ok (.iconst 0, 1) := by decide +kernel
theorem dX8_begin_35 : decode cX8_begin 35 = .ok (.putfield 44, 3) := by decide +kernel
theorem dX8_begin_38 : decode cX8_begin 38 = .ok (.iconst 0, 1) := by decide +kernel
theorem dX8_begin_39 : decode cX8_begin 39 = .ok (.istore_n 2, 1) := by decide +kernel
theorem dX8_begin_40 : decode cX8_begin 40 = .ok (.iload_n 2, 1) := by decide +kernel
theorem dX8_begin_41 : decode cX8_begin 41 = .ok (.bipush 6, 2) := by decide +kernel
theorem dX8_begin_43 : decode cX8_begin 43 = .ok (.if_icmp .ge 28, 3) := by decide +kernel
theorem dX8_begin_46 : decode cX8_begin 46 = .ok (.aload_n 0, 1) := by decide +kernel
theorem dX8_begin_47 : decode cX8_begin 47 = .ok (.getfield 9, 3) := by decide +kernel
theorem dX8_begin_50 : decode cX8_begin 50 = .ok (.iload_n 2, 1) := by decide +kernel
theorem dX8_begin_51 : decode cX8_begin 51 = .ok (.aload_n 1, 1) := by decide +kernel
theorem dX8_begin_52 : decode cX8_begin 52 = .ok (.getfield 47, 3) := by decide +kernel
theorem dX8_begin_55 : decode cX8_begin 55 = .ok (.iload_n 2, 1) := by decide +kernel
theorem dX8_begin_56 : decode cX8_begin 56 = .ok (.iaload, 1) := by decide +kernel
theorem dX8_begin_57 : decode cX8_begin 57 = .ok (.iastore, 1) := by decide +kernel
theorem dX8_begin_58 : decode cX8_begin 58 = .ok (.aload_n 0, 1) := by decide +kernel
theorem dX8_begin_59 : decode cX8_begin 59 = .ok (.getfield 15, 3) := by decide +kernel
theorem dX8_begin_62 : decode cX8_begin 62 = .ok (.iload_n 2, 1) := by decide +kernel
theorem dX8_begin_63 : decode cX8_begin 63 = .ok (.iconst 0, 1) := by decide +kernel
theorem dX8_begin_64 : decode cX8_begin 64 = .ok (.iastore, 1) := by decide +kernel
theorem dX8_begin_65 : decode cX8_begin 65 = .ok (.iinc 2 1, 3) := by decide +kernel
theorem dX8_begin_68 : decode cX8_begin 68 = .ok (.goto (-28), 3) := by decide +kernel
theorem dX8_begin_71 : decode cX8_begin 71 = .ok (.iconst 0, 1) := by decide +kernel
theorem dX8_begin_72 : decode cX8_begin 72 = .ok (.istore_n 2, 1) := by decide +kernel
theorem dX8_begin_73 : decode cX8_begin 73 = .ok (.iload_n 2, 1) := by decide +kernel
theorem dX8_begin_74 : decode cX8_begin 74 = .ok (.bipush 8, 2) := by decide +kernel
theorem dX8_begin_76 : decode cX8_begin 76 = .ok (.if_icmp .ge 16, 3) := by decide +kernel
theorem dX8_begin_79 : decode cX8_begin 79 = .ok (.aload_n 0, 1) := by decide +kernel
theorem dX8_begin_80 : decode cX8_begin 80 = .ok (.getfield 18, 3) := by decide +kernel
theorem dX8_begin_83 : decode cX8_begin 83 = .ok (.iload_n 2, 1) := by decide +kernel
theorem dX8_begin_84 : decode cX8_begin 84 = .ok (.iconst 0, 1) := by decide +kernel
theorem dX8_begin_85 : decode cX8_begin 85 = .ok (.iastore, 1) := by decide +kernel
theorem dX8_begin_86 : decode cX8_begin 86 = .ok (.iinc 2 1, 3) := by decide +kernel
theorem dX8_begin_89 : decode cX8_begin 89 = .ok (.goto (-16), 3) := by decide +kernel
theorem dX8_begin_92 : decode cX8_begin 92 = .ok (.return_, 1) := by decide +kernel
set_option maxHeartbeats 4000000 in
set_option maxRecDepth 100000 in
theorem s_X8_begin {l : Launch} {G : Gc} (qa : Nat) (qs : Nat) (qa_hour : Int32) (qa_heat : Int32) (qa_black : Int32) (qa_so : Int32) (qa_cracked : Int32) (qa_behind : Int32) (qa_allSighs : Int32) (qa_seed : Int32) (qa_pictures : Nat) (qa_shown : Nat) (qa_sighed : Nat) (qa_pictures_c : Nat → Int32) (qa_shown_c : Nat → Int32) (qa_sighed_c : Nat → Int32) (qs_slides : Int32) (qs_hearers : Int32) (qs_nears : Int32) (qs_lines : Int32) (qs_pass : Int32) (qs_spread : Int32) (qs_lamp : Int32) (qs_behind : Int32) (qs_settingsTold : Int32) (qs_slideNames : Nat) (qs_pictures : Nat) (qs_heats : Nat) (qs_after : Nat) (qs_hearerNames : Nat) (qs_needs : Nat) (qs_likes : Nat) (qs_hates : Nat) (qs_near : Nat) (qs_pictures_c : Nat → Int32)  : Cv l yX8_begin cX8_begin 3 0 0 0 G [.ref qa, .ref qs] [(qa, .inr (7, [.int qa_hour, .int qa_heat, .int qa_black, .int qa_so, .int qa_cracked, .int qa_behind, .int qa_allSighs, .int qa_seed, .ref qa_pictures, .ref qa_shown, .ref qa_sighed])), (qa_pictures, eI G 6 qa_pictures_c), (qa_shown, eI G 6 qa_shown_c), (qa_sighed, eI G 8 qa_sighed_c), (qs, .inr (4, [.int qs_slides, .int qs_hearers, .int qs_nears, .int qs_lines, .int qs_pass, .int qs_spread, .int qs_lamp, .int qs_behind, .int qs_settingsTold, .ref qs_slideNames, .ref qs_pictures, .ref qs_heats, .ref qs_after, .ref qs_hearerNames, .ref qs_needs, .ref qs_likes, .ref qs_hates, .ref qs_near])), (qs_pictures, eI G 6 qs_pictures_c)] (fun (u9 : va_W) => ∃ (x0_qa_pictures_c : Nat → Int32) (x1_qa_shown_c : Nat → Int32) (x2_qa_sighed_c : Nat → Int32), u9 = [(qa, .inr (7, [.int 0, .int 0, .int 0, .int 0, .int 0, .int qs_behind, .int 0, .int qa_seed, .ref qa_pictures, .ref qa_shown, .ref qa_sighed])), (qa_pictures, eI G 6 x0_qa_pictures_c), (qa_shown, eI G 6 x1_qa_shown_c), (qa_sighed, eI G 8 x2_qa_sighed_c), (qs, .inr (4, [.int qs_slides, .int qs_hearers, .int qs_nears, .int qs_lines, .int qs_pass, .int qs_spread, .int qs_lamp, .int qs_behind, .int qs_settingsTold, .ref qs_slideNames, .ref qs_pictures, .ref qs_heats, .ref qs_after, .ref qs_hearerNames, .ref qs_needs, .ref qs_likes, .ref qs_hates, .ref qs_near])), (qs_pictures, eI G 6 qs_pictures_c)]) := by
  refine Cv.ofQ (by decide) (Nat.le_of_ble_eq_true rfl) ?_
  intro p e s m below meth c ls A args Q hQ B hw hl
  have C : CallFix p m c cX8_begin 3 s args gw "LanternState$State" := B.1
  have hl : lv_has ls 3 [(0, .ref qa), (1, .ref qs)] := hl
  refine lv_aload_n C.1 C.2.1 dX8_begin_0 rfl (lv_at hl 0 rfl) ?_
  refine lv_iconst (v := 0) C.1 C.2.1 dX8_begin_1 (by decide) ?_
  refine x_put (w' := [(qa, .inr (7, [.int 0, .int qa_heat, .int qa_black, .int qa_so, .int qa_cracked, .int qa_behind, .int qa_allSighs, .int qa_seed, .ref qa_pictures, .ref qa_shown, .ref qa_sighed])), (qa_pictures, eI G 6 qa_pictures_c), (qa_shown, eI G 6 qa_shown_c), (qa_sighed, eI G 8 qa_sighed_c), (qs, .inr (4, [.int qs_slides, .int qs_hearers, .int qs_nears, .int qs_lines, .int qs_pass, .int qs_spread, .int qs_lamp, .int qs_behind, .int qs_settingsTold, .ref qs_slideNames, .ref qs_pictures, .ref qs_heats, .ref qs_after, .ref qs_hearerNames, .ref qs_needs, .ref qs_likes, .ref qs_hates, .ref qs_near])), (qs_pictures, eI G 6 qs_pictures_c)]) C hw iwX8 tyX8_ok nmX8 7 rfl 0 rfl 0 (by decide) kw237 rfl rfl rfl (Nat.le_of_ble_eq_true rfl) rfl dX8_begin_2 (fun H locs hw => ?_)
  refine lv_aload_n C.1 C.2.1 dX8_begin_5 rfl (lv_at hl 0 rfl) ?_
  refine lv_iconst (v := 0) C.1 C.2.1 dX8_begin_6 (by decide) ?_
  refine x_put (w' := [(qa, .inr (7, [.int 0, .int 0, .int qa_black, .int qa_so, .int qa_cracked, .int qa_behind, .int qa_allSighs, .int qa_seed, .ref qa_pictures, .ref qa_shown, .ref qa_sighed])), (qa_pictures, eI G 6 qa_pictures_c), (qa_shown, eI G 6 qa_shown_c), (qa_sighed, eI G 8 qa_sighed_c), (qs, .inr (4, [.int qs_slides, .int qs_hearers, .int qs_nears, .int qs_lines, .int qs_pass, .int qs_spread, .int qs_lamp, .int qs_behind, .int qs_settingsTold, .ref qs_slideNames, .ref qs_pictures, .ref qs_heats, .ref qs_after, .ref qs_hearerNames, .ref qs_needs, .ref qs_likes, .ref qs_hates, .ref qs_near])), (qs_pictures, eI G 6 qs_pictures_c)]) C hw iwX8 tyX8_ok nmX8 7 rfl 0 rfl 1 (by decide) kw240 rfl rfl rfl (Nat.le_of_ble_eq_true rfl) rfl dX8_begin_7 (fun H locs hw => ?_)
  refine lv_aload_n C.1 C.2.1 dX8_begin_10 rfl (lv_at hl 0 rfl) ?_
  refine lv_iconst (v := 0) C.1 C.2.1 dX8_begin_11 (by decide) ?_
  refine x_put (w' := [(qa, .inr (7, [.int 0, .int 0, .int 0, .int qa_so, .int qa_cracked, .int qa_behind, .int qa_allSighs, .int qa_seed, .ref qa_pictures, .ref qa_shown, .ref qa_sighed])), (qa_pictures, eI G 6 qa_pictures_c), (qa_shown, eI G 6 qa_shown_c), (qa_sighed, eI G 8 qa_sighed_c), (qs, .inr (4, [.int qs_slides, .int qs_hearers, .int qs_nears, .int qs_lines, .int qs_pass, .int qs_spread, .int qs_lamp, .int qs_behind, .int qs_settingsTold, .ref qs_slideNames, .ref qs_pictures, .ref qs_heats, .ref qs_after, .ref qs_hearerNames, .ref qs_needs, .ref qs_likes, .ref qs_hates, .ref qs_near])), (qs_pictures, eI G 6 qs_pictures_c)]) C hw iwX8 tyX8_ok nmX8 7 rfl 0 rfl 2 (by decide) kw243 rfl (by first | rfl | decide) rfl (Nat.le_of_ble_eq_true rfl) rfl dX8_begin_12 (fun H locs hw => ?_)
  refine lv_aload_n C.1 C.2.1 dX8_begin_15 rfl (lv_at hl 0 rfl) ?_
  refine lv_iconst (v := 0) C.1 C.2.1 dX8_begin_16 (by decide) ?_
  refine x_put (w' := [(qa, .inr (7, [.int 0, .int 0, .int 0, .int 0, .int qa_cracked, .int qa_behind, .int qa_allSighs, .int qa_seed, .ref qa_pictures, .ref qa_shown, .ref qa_sighed])), (qa_pictures, eI G 6 qa_pictures_c), (qa_shown, eI G 6 qa_shown_c), (qa_sighed, eI G 8 qa_sighed_c), (qs, .inr (4, [.int qs_slides, .int qs_hearers, .int qs_nears, .int qs_lines, .int qs_pass, .int qs_spread, .int qs_lamp, .int qs_behind, .int qs_settingsTold, .ref qs_slideNames, .ref qs_pictures, .ref qs_heats, .ref qs_after, .ref qs_hearerNames, .ref qs_needs, .ref qs_likes, .ref qs_hates, .ref qs_near])), (qs_pictures, eI G 6 qs_pictures_c)]) C hw iwX8 tyX8_ok nmX8 7 rfl 0 rfl 3 (by decide) kw247 rfl rfl rfl (Nat.le_of_ble_eq_true rfl) rfl dX8_begin_17 (fun H locs hw => ?_)
  refine lv_aload_n C.1 C.2.1 dX8_begin_20 rfl (lv_at hl 0 rfl) ?_
  refine lv_iconst (v := 0) C.1 C.2.1 dX8_begin_21 (by decide) ?_
  refine x_put (w' := [(qa, .inr (7, [.int 0, .int 0, .int 0, .int 0, .int 0, .int qa_behind, .int qa_allSighs, .int qa_seed, .ref qa_pictures, .ref qa_shown, .ref qa_sighed])), (qa_pictures, eI G 6 qa_pictures_c), (qa_shown, eI G 6 qa_shown_c), (qa_sighed, eI G 8 qa_sighed_c), (qs, .inr (4, [.int qs_slides, .int qs_hearers, .int qs_nears, .int qs_lines, .int qs_pass, .int qs_spread, .int qs_lamp, .int qs_behind, .int qs_settingsTold, .ref qs_slideNames, .ref qs_pictures, .ref qs_heats, .ref qs_after, .ref qs_hearerNames, .ref qs_needs, .ref qs_likes, .ref qs_hates, .ref qs_near])), (qs_pictures, eI G 6 qs_pictures_c)]) C hw iwX8 tyX8_ok nmX8 7 rfl 0 rfl 4 (by decide) kw251 rfl rfl rfl (Nat.le_of_ble_eq_true rfl) rfl dX8_begin_22 (fun H locs hw => ?_)
  refine lv_aload_n C.1 C.2.1 dX8_begin_25 rfl (lv_at hl 0 rfl) ?_
  refine lv_aload_n C.1 C.2.1 dX8_begin_26 rfl (lv_at hl 1 rfl) ?_
  refine x_get C hw iwX5 4 rfl 4 rfl 7 (by decide) kw168 rfl dX8_begin_27 ?_
  refine x_put (w' := [(qa, .inr (7, [.int 0, .int 0, .int 0, .int 0, .int 0, .int qs_behind, .int qa_allSighs, .int qa_seed, .ref qa_pictures, .ref qa_shown, .ref qa_sighed])), (qa_pictures, eI G 6 qa_pictures_c), (qa_shown, eI G 6 qa_shown_c), (qa_sighed, eI G 8 qa_sighed_c), (qs, .inr (4, [.int qs_slides, .int qs_hearers, .int qs_nears, .int qs_lines, .int qs_pass, .int qs_spread, .int qs_lamp, .int qs_behind, .int qs_settingsTold, .ref qs_slideNames, .ref qs_pictures, .ref qs_heats, .ref qs_after, .ref qs_hearerNames, .ref qs_needs, .ref qs_likes, .ref qs_hates, .ref qs_near])), (qs_pictures, eI G 6 qs_pictures_c)]) C hw iwX8 tyX8_ok nmX8 7 rfl 0 rfl 5 (by decide) kw256 rfl rfl rfl (Nat.le_of_ble_eq_true rfl) rfl dX8_begin_30 (fun H locs hw => ?_)
  refine lv_aload_n C.1 C.2.1 dX8_begin_33 rfl (lv_at hl 0 rfl) ?_
  refine lv_iconst (v := 0) C.1 C.2.1 dX8_begin_34 (by decide) ?_
  refine x_put (w' := [(qa, .inr (7, [.int 0, .int 0, .int 0, .int 0, .int 0, .int qs_behind, .int 0, .int qa_seed, .ref qa_pictures, .ref qa_shown, .ref qa_sighed])), (qa_pictures, eI G 6 qa_pictures_c), (qa_shown, eI G 6 qa_shown_c), (qa_sighed, eI G 8 qa_sighed_c), (qs, .inr (4, [.int qs_slides, .int qs_hearers, .int qs_nears, .int qs_lines, .int qs_pass, .int qs_spread, .int qs_lamp, .int qs_behind, .int qs_settingsTold, .ref qs_slideNames, .ref qs_pictures, .ref qs_heats, .ref qs_after, .ref qs_hearerNames, .ref qs_needs, .ref qs_likes, .ref qs_hates, .ref qs_near])), (qs_pictures, eI G 6 qs_pictures_c)]) C hw iwX8 tyX8_ok nmX8 7 rfl 0 rfl 6 (by decide) kw260 rfl rfl rfl (Nat.le_of_ble_eq_true rfl) rfl dX8_begin_35 (fun H locs hw => ?_)
  refine lv_iconst (v := 0) C.1 C.2.1 dX8_begin_38 (by decide) ?_
  refine lv_istore_n (lv' := [(2, .int 0), (0, .ref qa), (1, .ref qs)]) C.1 C.2.1 dX8_begin_39 rfl hl (by decide) rfl (fun ls hl => ?_)
  have loopJ53 : ∀ (n9 : Nat) (j50 : Int32) (j51 : Nat → Int32) (j52 : Nat → Int32), (2147483647 - j50.toInt).toNat < n9 → (0 ≤ j50.toInt ∧ j50.toInt ≤ 6) → ∀ (H : Heap) (locs : List Loc) (ls : Array Slot), Wd G s A [(qa, .inr (7, [.int 0, .int 0, .int 0, .int 0, .int 0, .int qs_behind, .int 0, .int qa_seed, .ref qa_pictures, .ref qa_shown, .ref qa_sighed])), (qa_pictures, eI G 6 j51), (qa_shown, eI G 6 j52), (qa_sighed, eI G 8 qa_sighed_c), (qs, .inr (4, [.int qs_slides, .int qs_hearers, .int qs_nears, .int qs_lines, .int qs_pass, .int qs_spread, .int qs_lamp, .int qs_behind, .int qs_settingsTold, .ref qs_slideNames, .ref qs_pictures, .ref qs_heats, .ref qs_after, .ref qs_hearerNames, .ref qs_needs, .ref qs_likes, .ref qs_hates, .ref qs_near])), (qs_pictures, eI G 6 qs_pictures_c)] H locs → lv_has ls 3 [(2, .int j50), (0, .ref qa), (1, .ref qs)] → W p l e (rmD 0 0 0) s m args below meth c H locs 0 0 Q (F0 m 40 ls []) := by
    intro n9
    induction n9 with
    | zero => intro j50 j51 j52 h9; exact absurd h9 (Nat.not_lt_zero _)
    | succ n9 ihJ53 =>
      intro j50 j51 j52 h9J53 hJ53_0 H locs ls hw hl
      have hbj50 := i_bd j50
      refine lv_iload_n C.1 C.2.1 dX8_begin_40 rfl (lv_at hl 0 rfl) ?_
      refine lv_bipush (v := 6) C.1 C.2.1 dX8_begin_41 (by decide) ?_
      refine lv_icmp_ge (tgt := 71) C.1 C.2.1 dX8_begin_43 (by decide) (fun c63 => ?_) (fun c63 => ?_)
      · skip
        have c63 : 6 ≤ j50.toInt := i_leT (X := 6) (Y := j50.toInt) rfl rfl c63
        refine lv_iconst (v := 0) C.1 C.2.1 dX8_begin_71 (by decide) ?_
        refine lv_istore_n (lv' := [(2, .int 0), (0, .ref qa), (1, .ref qs)]) C.1 C.2.1 dX8_begin_72 rfl hl (by decide) rfl (fun ls hl => ?_)
        have loopJ110 : ∀ (n9 : Nat) (j108 : Int32) (j109 : Nat → Int32), (2147483647 - j108.toInt).toNat < n9 → (0 ≤ j108.toInt ∧ j108.toInt ≤ 8) → ∀ (H : Heap) (locs : List Loc) (ls : Array Slot), Wd G s A [(qa, .inr (7, [.int 0, .int 0, .int 0, .int 0, .int 0, .int qs_behind, .int 0, .int qa_seed, .ref qa_pictures, .ref qa_shown, .ref qa_sighed])), (qa_pictures, eI G 6 j51), (qa_shown, eI G 6 j52), (qa_sighed, eI G 8 j109), (qs, .inr (4, [.int qs_slides, .int qs_hearers, .int qs_nears, .int qs_lines, .int qs_pass, .int qs_spread, .int qs_lamp, .int qs_behind, .int qs_settingsTold, .ref qs_slideNames, .ref qs_pictures, .ref qs_heats, .ref qs_after, .ref qs_hearerNames, .ref qs_needs, .ref qs_likes, .ref qs_hates, .ref qs_near])), (qs_pictures, eI G 6 qs_pictures_c)] H locs → lv_has ls 3 [(2, .int j108), (0, .ref qa)] → W p l e (rmD 0 0 0) s m args below meth c H locs 0 0 Q (F0 m 73 ls []) := by
          intro n9
          induction n9 with
          | zero => intro j108 j109 h9; exact absurd h9 (Nat.not_lt_zero _)
          | succ n9 ihJ110 =>
            intro j108 j109 h9J110 hJ110_0 H locs ls hw hl
            have hbj108 := i_bd j108
            refine lv_iload_n C.1 C.2.1 dX8_begin_73 rfl (lv_at hl 0 rfl) ?_
            refine lv_bipush (v := 8) C.1 C.2.1 dX8_begin_74 (by decide) ?_
            refine lv_icmp_ge (tgt := 92) C.1 C.2.1 dX8_begin_76 (by decide) (fun c117 => ?_) (fun c117 => ?_)
            · skip
              have c117 : 8 ≤ j108.toInt := i_leT (X := 8) (Y := j108.toInt) rfl rfl c117
              exact x_retvQ hQ B hw ⟨j51, j52, j109, rfl⟩ (Nat.le_of_ble_eq_true rfl) (Nat.le_of_ble_eq_true rfl) dX8_begin_92
            · skip
              have c117 : j108.toInt < 8 := i_leF (X := 8) (Y := j108.toInt) rfl rfl c117
              refine lv_aload_n C.1 C.2.1 dX8_begin_79 rfl (lv_at hl 1 rfl) ?_
              refine x_get C hw iwX8 7 rfl 0 rfl 10 (by decide) kw269 rfl dX8_begin_80 ?_
              refine lv_iload_n C.1 C.2.1 dX8_begin_83 rfl (lv_at hl 0 rfl) ?_
              refine lv_iconst (v := 0) C.1 C.2.1 dX8_begin_84 (by decide) ?_
              obtain ⟨g118, eg118⟩ : ∃ z, upd j109 (j108.toNatClampNeg) 0 = z := ⟨_, rfl⟩
              refine x_iast (f' := g118) (w' := [(qa, .inr (7, [.int 0, .int 0, .int 0, .int 0, .int 0, .int qs_behind, .int 0, .int qa_seed, .ref qa_pictures, .ref qa_shown, .ref qa_sighed])), (qa_pictures, eI G 6 j51), (qa_shown, eI G 6 j52), (qa_sighed, eI G 8 g118), (qs, .inr (4, [.int qs_slides, .int qs_hearers, .int qs_nears, .int qs_lines, .int qs_pass, .int qs_spread, .int qs_lamp, .int qs_behind, .int qs_settingsTold, .ref qs_slideNames, .ref qs_pictures, .ref qs_heats, .ref qs_after, .ref qs_hearerNames, .ref qs_needs, .ref qs_likes, .ref qs_hates, .ref qs_near])), (qs_pictures, eI G 6 qs_pictures_c)]) C hw 3 rfl (i_in (by omega) (by omega)) eg118 rfl dX8_begin_85 (fun H locs hw => ?_)
              obtain ⟨v119, ev119⟩ : ∃ z : Int32, j108 + 1 = z := ⟨_, rfl⟩
              have hv119 : v119.toInt = j108.toInt + 1 := by rw [← ev119]; exact i_add rfl rfl (by omega) (by omega)
              refine lv_iinc (v := v119) (lv' := [(2, .int v119), (0, .ref qa)]) C.1 C.2.1 dX8_begin_86 hl (k := 0) rfl ev119 (by decide) rfl (fun ls hl => ?_)
              refine lv_goto (tgt := 73) C.1 C.2.1 dX8_begin_89 (by decide) ?_
              exact ihJ110 v119 g118 (by omega) (by omega) _ _ _ hw (lv_sub hl [0, 1] rfl)
        exact loopJ110 _ 0 qa_sighed_c (Nat.lt_succ_self _) (by decide) _ _ _ hw (lv_sub hl [0, 1] rfl)
      · skip
        have c63 : j50.toInt < 6 := i_leF (X := 6) (Y := j50.toInt) rfl rfl c63
        refine lv_aload_n C.1 C.2.1 dX8_begin_46 rfl (lv_at hl 1 rfl) ?_
        refine x_get C hw iwX8 7 rfl 0 rfl 8 (by decide) kw263 rfl dX8_begin_47 ?_
        refine lv_iload_n C.1 C.2.1 dX8_begin_50 rfl (lv_at hl 0 rfl) ?_
        refine lv_aload_n C.1 C.2.1 dX8_begin_51 rfl (lv_at hl 2 rfl) ?_
        refine x_get C hw iwX5 4 rfl 4 rfl 10 (by decide) kw174 rfl dX8_begin_52 ?_
        refine lv_iload_n C.1 C.2.1 dX8_begin_55 rfl (lv_at hl 0 rfl) ?_
        refine x_iald (v := (qs_pictures_c j50.toNatClampNeg)) C hw 5 rfl (i_in (by omega) (by omega)) rfl dX8_begin_56 (x_gen (fun v120 => ?_))
        obtain ⟨g121, eg121⟩ : ∃ z, upd j51 (j50.toNatClampNeg) v120 = z := ⟨_, rfl⟩
        refine x_iast (f' := g121) (w' := [(qa, .inr (7, [.int 0, .int 0, .int 0, .int 0, .int 0, .int qs_behind, .int 0, .int qa_seed, .ref qa_pictures, .ref qa_shown, .ref qa_sighed])), (qa_pictures, eI G 6 g121), (qa_shown, eI G 6 j52), (qa_sighed, eI G 8 qa_sighed_c), (qs, .inr (4, [.int qs_slides, .int qs_hearers, .int qs_nears, .int qs_lines, .int qs_pass, .int qs_spread, .int qs_lamp, .int qs_behind, .int qs_settingsTold, .ref qs_slideNames, .ref qs_pictures, .ref qs_heats, .ref qs_after, .ref qs_hearerNames, .ref qs_needs, .ref qs_likes, .ref qs_hates, .ref qs_near])), (qs_pictures, eI G 6 qs_pictures_c)]) C hw 1 rfl (i_in (by omega) (by omega)) eg121 rfl dX8_begin_57 (fun H locs hw => ?_)
        refine lv_aload_n C.1 C.2.1 dX8_begin_58 rfl (lv_at hl 1 rfl) ?_
        refine x_get C hw iwX8 7 rfl 0 rfl 9 (by decide) kw267 rfl dX8_begin_59 ?_
        refine lv_iload_n C.1 C.2.1 dX8_begin_62 rfl (lv_at hl 0 rfl) ?_
        refine lv_iconst (v := 0) C.1 C.2.1 dX8_begin_63 (by decide) ?_
        obtain ⟨g122, eg122⟩ : ∃ z, upd j52 (j50.toNatClampNeg) 0 = z := ⟨_, rfl⟩
        refine x_iast (f' := g122) (w' := [(qa, .inr (7, [.int 0, .int 0, .int 0, .int 0, .int 0, .int qs_behind, .int 0, .int qa_seed, .ref qa_pictures, .ref qa_shown, .ref qa_sighed])), (qa_pictures, eI G 6 g121), (qa_shown, eI G 6 g122), (qa_sighed, eI G 8 qa_sighed_c), (qs, .inr (4, [.int qs_slides, .int qs_hearers, .int qs_nears, .int qs_lines, .int qs_pass, .int qs_spread, .int qs_lamp, .int qs_behind, .int qs_settingsTold, .ref qs_slideNames, .ref qs_pictures, .ref qs_heats, .ref qs_after, .ref qs_hearerNames, .ref qs_needs, .ref qs_likes, .ref qs_hates, .ref qs_near])), (qs_pictures, eI G 6 qs_pictures_c)]) C hw 2 rfl (i_in (by omega) (by omega)) eg122 rfl dX8_begin_64 (fun H locs hw => ?_)
        obtain ⟨v123, ev123⟩ : ∃ z : Int32, j50 + 1 = z := ⟨_, rfl⟩
        have hv123 : v123.toInt = j50.toInt + 1 := by rw [← ev123]; exact i_add rfl rfl (by omega) (by omega)
        refine lv_iinc (v := v123) (lv' := [(2, .int v123), (0, .ref qa), (1, .ref qs)]) C.1 C.2.1 dX8_begin_65 hl (k := 0) rfl ev123 (by decide) rfl (fun ls hl => ?_)
        refine lv_goto (tgt := 40) C.1 C.2.1 dX8_begin_68 (by decide) ?_
        exact ihJ53 v123 g121 g122 (by omega) (by omega) _ _ _ hw (lv_sub hl [0, 1, 2] rfl)
  exact loopJ53 _ 0 qa_pictures_c qa_shown_c (Nat.lt_succ_self _) (by decide) _ _ _ hw (lv_sub hl [0, 1, 2] rfl)
theorem dX8_copyFrom_0 : decode cX8_copyFrom 0 = .ok (.aload_n 0, 1) := by decide +kernel
theorem dX8_copyFrom_1 : decode cX8_copyFrom 1 = .ok (.aload_n 1, 1) := by decide +kernel
theorem dX8_copyFrom_2 : decode cX8_copyFrom 2 = .ok (.getfield 21, 3) := by decide +kernel
theorem dX8_copyFrom_5 : decode cX8_copyFrom 5 = .ok (.putfield 21, 3) := by decide +kernel
theorem dX8_copyFrom_8 : decode cX8_copyFrom 8 = .ok (.aload_n 0, 1) := by decide +kernel
theorem dX8_copyFrom_9 : decode cX8_copyFrom 9 = .ok (.aload_n 1, 1) := by decide +kernel
theorem dX8_copyFrom_10 : decode cX8_copyFrom 10 = .ok (.getfield 25, 3) := by decide +kernel
theorem dX8_copyFrom_13 : decode cX8_copyFrom 13 = .ok (.putfield 25, 3) := by decide +kernel
theorem dX8_copyFrom_16 : decode cX8_copyFrom 16 = .ok (.aload_n 0, 1) := by decide +kernel
theorem dX8_copyFrom_17 : decode cX8_copyFrom 17 = .ok (.aload_n 1, 1) := by decide +kernel
theorem dX8_copyFrom_18 : decode cX8_copyFrom 18 = .ok (.getfield 28, 3) := by decide +kernel
theorem dX8_copyFrom_21 : decode cX8_copyFrom 21 = .ok (.putfield 28, 3) := by decide +kernel
theorem dX8_copyFrom_24 : decode cX8_copyFrom 24 = .ok (.aload_n 0, 1) := by decide +kernel
theorem dX8_copyFrom_25 : decode cX8_copyFrom 25 = .ok (.aload_n 1, 1) := by decide +kernel
theorem dX8_copyFrom_26 : decode cX8_copyFrom 26 = .ok (.getfield 32, 3) := by decide +kernel
theorem dX8_copyFrom_29 : decode cX8_copyFrom 29 = .ok (.putfield 32, 3) := by decide +kernel
theorem dX8_copyFrom_32 : decode cX8_copyFrom 32 = .ok (.aload_n 0, 1) := by decide +kernel
theorem dX8_copyFrom_33 : decode cX8_copyFrom 33 = .ok (.aload_n 1, 1) := by decide +kernel
theorem dX8_copyFrom_34 : decode cX8_copyFrom 34 = .ok (.getfield 35, 3) := by decide +kernel
theorem dX8_copyFrom_37 : decode cX8_copyFrom 37 = .ok (.putfield 35, 3) := by decide +kernel
theorem dX8_copyFrom_40 : decode cX8_copyFrom 40 = .ok (.aload_n 0, 1) := by decide +kernel
theorem dX8_copyFrom_41 : decode cX8_copyFrom 41 = .ok (.aload_n 1, 1) := by decide +kernel
theorem dX8_copyFrom_42 : decode cX8_copyFrom 42 = .ok (.getfield 43, 3) := by decide +kernel
theorem dX8_copyFrom_45 : decode cX8_copyFrom 45 = .ok (.putfield 43, 3) := by decide +kernel
theorem dX8_copyFrom_48 : decode cX8_copyFrom 48 = .ok (.aload_n 0, 1) := by decide +kernel
theorem dX8_copyFrom_49 : decode cX8_copyFrom 49 = .ok (.aload_n 1, 1) := by decide +kernel
theorem dX8_copyFrom_50 : decode cX8_copyFrom 50 = .ok (.getfield 44, 3) := by decide +kernel
theorem dX8_copyFrom_53 : decode cX8_copyFrom 53 = .ok (.putfield 44, 3) := by decide +kernel
theorem dX8_copyFrom_56 : decode cX8_copyFrom 56 = .ok (.aload_n 1, 1) := by decide +kernel
theorem dX8_copyFrom_57 : decode cX8_copyFrom 57 = .ok (.getfield 9, 3) := by decide +kernel
theorem dX8_copyFrom_60 : decode cX8_copyFrom 60 = .ok (.iconst 0, 1) := by decide +kernel
theorem dX8_copyFrom_61 : decode cX8_copyFrom 61 = .ok (.aload_n 0, 1) := by decide +kernel
theorem dX8_copyFrom_62 : decode cX8_copyFrom 62 = .ok (.getfield 9, 3) := by decide +kernel
theorem dX8_copyFrom_65 : decode cX8_copyFrom 65 = .ok (.iconst 0, 1) := by decide +kernel
theorem dX8_copyFrom_66 : decode cX8_copyFrom 66 = .ok (.bipush 6, 2) := by decide +kernel
theorem dX8_copyFrom_68 : decode cX8_copyFrom 68 = .ok (.invokestatic 48, 3) := by decide +kernel
theorem dX8_copyFrom_71 : decode cX8_copyFrom 71 = .ok (.aload_n 1, 1) := by decide +kernel
theorem dX8_copyFrom_72 : decode cX8_copyFrom 72 = .ok (.getfield 15, 3) := by decide +kernel
theorem dX8_copyFrom_75 : decode cX8_copyFrom 75 = .ok (.iconst 0, 1) := by decide +kernel
theorem dX8_copyFrom_76 : decode cX8_copyFrom 76 = .ok (.aload_n 0, 1) := by decide +kernel
theorem dX8_copyFrom_77 : decode cX8_copyFrom 77 = .ok (.getfield 15, 3) := by decide +kernel
theorem dX8_copyFrom_80 : decode cX8_copyFrom 80 = .ok (.iconst 0, 1) := by decide +kernel
theorem dX8_copyFrom_81 : decode cX8_copyFrom 81 = .ok (.bipush 6, 2) := by decide +kernel
theorem dX8_copyFrom_83 : decode cX8_copyFrom 83 = .ok (.invokestatic 48, 3) := by decide +kernel
theorem dX8_copyFrom_86 : decode cX8_copyFrom 86 = .ok (.aload_n 1, 1) := by decide +kernel
theorem dX8_copyFrom_87 : decode cX8_copyFrom 87 = .ok (.getfield 18, 3) := by decide +kernel
theorem dX8_copyFrom_90 : decode cX8_copyFrom 90 = .ok (.iconst 0, 1) := by decide +kernel
theorem dX8_copyFrom_91 : decode cX8_copyFrom 91 = .ok (.aload_n 0, 1) := by decide +kernel
theorem dX8_copyFrom_92 : decode cX8_copyFrom 92 = .ok (.getfield 18, 3) := by decide +kernel
theorem dX8_copyFrom_95 : decode cX8_copyFrom 95 = .ok (.iconst 0, 1) := by decide +kernel
theorem dX8_copyFrom_96 : decode cX8_copyFrom 96 = .ok (.bipush 8, 2) := by decide +kernel
theorem dX8_copyFrom_98 : decode cX8_copyFrom 98 = .ok (.invokestatic 48, 3) := by decide +kernel
theorem dX8_copyFrom_101 : decode cX8_copyFrom 101 = .ok (.return_, 1) := by decide +kernel
set_option maxHeartbeats 4000000 in
set_option maxRecDepth 100000 in
theorem s_X8_copyFrom {l : Launch} {G : Gc} (qa : Nat) (qo : Nat) (qa_hour : Int32) (qa_heat : Int32) (qa_black : Int32) (qa_so : Int32) (qa_cracked : Int32) (qa_behind : Int32) (qa_allSighs : Int32) (qa_seed : Int32) (qa_pictures : Nat) (qa_shown : Nat) (qa_sighed : Nat) (qa_pictures_c : Nat → Int32) (qa_shown_c : Nat → Int32) (qa_sighed_c : Nat → Int32) (qo_hour : Int32) (qo_heat : Int32) (qo_black : Int32) (qo_so : Int32) (qo_cracked : Int32) (qo_behind : Int32) (qo_allSighs : Int32) (qo_seed : Int32) (qo_pictures : Nat) (qo_shown : Nat) (qo_sighed : Nat) (qo_pictures_c : Nat → Int32) (qo_shown_c : Nat → Int32) (qo_sighed_c : Nat → Int32) (hi_qo_black : 0 ≤ qo_black.toInt ∧ qo_black.toInt ≤ 1) : Cv l yX8_copyFrom cX8_copyFrom 2 1 0 0 G [.ref qa, .ref qo] [(qa, .inr (7, [.int qa_hour, .int qa_heat, .int qa_black, .int qa_so, .int qa_cracked, .int qa_behind, .int qa_allSighs, .int qa_seed, .ref qa_pictures, .ref qa_shown, .ref qa_sighed])), (qa_pictures, eI G 6 qa_pictures_c), (qa_shown, eI G 6 qa_shown_c), (qa_sighed, eI G 8 qa_sighed_c), (qo, .inr (7, [.int qo_hour, .int qo_heat, .int qo_black, .int qo_so, .int qo_cracked, .int qo_behind, .int qo_allSighs, .int qo_seed, .ref qo_pictures, .ref qo_shown, .ref qo_sighed])), (qo_pictures, eI G 6 qo_pictures_c), (qo_shown, eI G 6 qo_shown_c), (qo_sighed, eI G 8 qo_sighed_c)] (fun (u9 : va_W) => ∃ (x0_qa_pictures_c : Nat → Int32) (x1_qa_shown_c : Nat → Int32) (x2_qa_sighed_c : Nat → Int32), u9 = [(qa, .inr (7, [.int qo_hour, .int qo_heat, .int qo_black, .int qo_so, .int qo_cracked, .int qo_behind, .int qo_allSighs, .int qa_seed, .ref qa_pictures, .ref qa_shown, .ref qa_sighed])), (qa_pictures, eI G 6 x0_qa_pictures_c), (qa_shown, eI G 6 x1_qa_shown_c), (qa_sighed, eI G 8 x2_qa_sighed_c), (qo, .inr (7, [.int qo_hour, .int qo_heat, .int qo_black, .int qo_so, .int qo_cracked, .int qo_behind, .int qo_allSighs, .int qo_seed, .ref qo_pictures, .ref qo_shown, .ref qo_sighed])), (qo_pictures, eI G 6 qo_pictures_c), (qo_shown, eI G 6 qo_shown_c), (qo_sighed, eI G 8 qo_sighed_c)]) := by
  refine Cv.ofQ (by decide) (Nat.le_of_ble_eq_true rfl) ?_
  intro p e s m below meth c ls A args Q hQ B hw hl
  have C : CallFix p m c cX8_copyFrom 2 s args gw "LanternState$State" := B.1
  have hl : lv_has ls 2 [(0, .ref qa), (1, .ref qo)] := hl
  refine lv_aload_n C.1 C.2.1 dX8_copyFrom_0 rfl (lv_at hl 0 rfl) ?_
  refine lv_aload_n C.1 C.2.1 dX8_copyFrom_1 rfl (lv_at hl 1 rfl) ?_
  refine x_get C hw iwX8 7 rfl 4 rfl 0 (by decide) kw237 rfl dX8_copyFrom_2 ?_
  refine x_put (w' := [(qa, .inr (7, [.int qo_hour, .int qa_heat, .int qa_black, .int qa_so, .int qa_cracked, .int qa_behind, .int qa_allSighs, .int qa_seed, .ref qa_pictures, .ref qa_shown, .ref qa_sighed])), (qa_pictures, eI G 6 qa_pictures_c), (qa_shown, eI G 6 qa_shown_c), (qa_sighed, eI G 8 qa_sighed_c), (qo, .inr (7, [.int qo_hour, .int qo_heat, .int qo_black, .int qo_so, .int qo_cracked, .int qo_behind, .int qo_allSighs, .int qo_seed, .ref qo_pictures, .ref qo_shown, .ref qo_sighed])), (qo_pictures, eI G 6 qo_pictures_c), (qo_shown, eI G 6 qo_shown_c), (qo_sighed, eI G 8 qo_sighed_c)]) C hw iwX8 tyX8_ok nmX8 7 rfl 0 rfl 0 (by decide) kw237 rfl rfl rfl (Nat.le_of_ble_eq_true rfl) rfl dX8_copyFrom_5 (fun H locs hw => ?_)
  refine lv_aload_n C.1 C.2.1 dX8_copyFrom_8 rfl (lv_at hl 0 rfl) ?_
  refine lv_aload_n C.1 C.2.1 dX8_copyFrom_9 rfl (lv_at hl 1 rfl) ?_
  refine x_get C hw iwX8 7 rfl 4 rfl 1 (by decide) kw240 rfl dX8_copyFrom_10 ?_
  refine x_put (w' := [(qa, .inr (7, [.int qo_hour, .int qo_heat, .int qa_black, .int qa_so, .int qa_cracked, .int qa_behind, .int qa_allSighs, .int qa_seed, .ref qa_pictures, .ref qa_shown, .ref qa_sighed])), (qa_pictures, eI G 6 qa_pictures_c), (qa_shown, eI G 6 qa_shown_c), (qa_sighed, eI G 8 qa_sighed_c), (qo, .inr (7, [.int qo_hour, .int qo_heat, .int qo_black, .int qo_so, .int qo_cracked, .int qo_behind, .int qo_allSighs, .int qo_seed, .ref qo_pictures, .ref qo_shown, .ref qo_sighed])), (qo_pictures, eI G 6 qo_pictures_c), (qo_shown, eI G 6 qo_shown_c), (qo_sighed, eI G 8 qo_sighed_c)]) C hw iwX8 tyX8_ok nmX8 7 rfl 0 rfl 1 (by decide) kw240 rfl rfl rfl (Nat.le_of_ble_eq_true rfl) rfl dX8_copyFrom_13 (fun H locs hw => ?_)
  refine lv_aload_n C.1 C.2.1 dX8_copyFrom_16 rfl (lv_at hl 0 rfl) ?_
  refine lv_aload_n C.1 C.2.1 dX8_copyFrom_17 rfl (lv_at hl 1 rfl) ?_
  refine x_get C hw iwX8 7 rfl 4 rfl 2 (by decide) kw243 rfl dX8_copyFrom_18 ?_
  refine x_put (w' := [(qa, .inr (7, [.int qo_hour, .int qo_heat, .int qo_black, .int qa_so, .int qa_cracked, .int qa_behind, .int qa_allSighs, .int qa_seed, .ref qa_pictures, .ref qa_shown, .ref qa_sighed])), (qa_pictures, eI G 6 qa_pictures_c), (qa_shown, eI G 6 qa_shown_c), (qa_sighed, eI G 8 qa_sighed_c), (qo, .inr (7, [.int qo_hour, .int qo_heat, .int qo_black, .int qo_so, .int qo_cracked, .int qo_behind, .int qo_allSighs, .int qo_seed, .ref qo_pictures, .ref qo_shown, .ref qo_sighed])), (qo_pictures, eI G 6 qo_pictures_c), (qo_shown, eI G 6 qo_shown_c), (qo_sighed, eI G 8 qo_sighed_c)]) C hw iwX8 tyX8_ok nmX8 7 rfl 0 rfl 2 (by decide) kw243 rfl (i_isB (by omega) (by omega)).1 (i_isB (by omega) (by omega)).2 (Nat.le_of_ble_eq_true rfl) rfl dX8_copyFrom_21 (fun H locs hw => ?_)
  refine lv_aload_n C.1 C.2.1 dX8_copyFrom_24 rfl (lv_at hl 0 rfl) ?_
  refine lv_aload_n C.1 C.2.1 dX8_copyFrom_25 rfl (lv_at hl 1 rfl) ?_
  refine x_get C hw iwX8 7 rfl 4 rfl 3 (by decide) kw247 rfl dX8_copyFrom_26 ?_
  refine x_put (w' := [(qa, .inr (7, [.int qo_hour, .int qo_heat, .int qo_black, .int qo_so, .int qa_cracked, .int qa_behind, .int qa_allSighs, .int qa_seed, .ref qa_pictures, .ref qa_shown, .ref qa_sighed])), (qa_pictures, eI G 6 qa_pictures_c), (qa_shown, eI G 6 qa_shown_c), (qa_sighed, eI G 8 qa_sighed_c), (qo, .inr (7, [.int qo_hour, .int qo_heat, .int qo_black, .int qo_so, .int qo_cracked, .int qo_behind, .int qo_allSighs, .int qo_seed, .ref qo_pictures, .ref qo_shown, .ref qo_sighed])), (qo_pictures, eI G 6 qo_pictures_c), (qo_shown, eI G 6 qo_shown_c), (qo_sighed, eI G 8 qo_sighed_c)]) C hw iwX8 tyX8_ok nmX8 7 rfl 0 rfl 3 (by decide) kw247 rfl rfl rfl (Nat.le_of_ble_eq_true rfl) rfl dX8_copyFrom_29 (fun H locs hw => ?_)
  refine lv_aload_n C.1 C.2.1 dX8_copyFrom_32 rfl (lv_at hl 0 rfl) ?_
  refine lv_aload_n C.1 C.2.1 dX8_copyFrom_33 rfl (lv_at hl 1 rfl) ?_
  refine x_get C hw iwX8 7 rfl 4 rfl 4 (by decide) kw251 rfl dX8_copyFrom_34 ?_
  refine x_put (w' := [(qa, .inr (7, [.int qo_hour, .int qo_heat, .int qo_black, .int qo_so, .int qo_cracked, .int qa_behind, .int qa_allSighs, .int qa_seed, .ref qa_pictures, .ref qa_shown, .ref qa_sighed])), (qa_pictures, eI G 6 qa_pictures_c), (qa_shown, eI G 6 qa_shown_c), (qa_sighed, eI G 8 qa_sighed_c), (qo, .inr (7, [.int qo_hour, .int qo_heat, .int qo_black, .int qo_so, .int qo_cracked, .int qo_behind, .int qo_allSighs, .int qo_seed, .ref qo_pictures, .ref qo_shown, .ref qo_sighed])), (qo_pictures, eI G 6 qo_pictures_c), (qo_shown, eI G 6 qo_shown_c), (qo_sighed, eI G 8 qo_sighed_c)]) C hw iwX8 tyX8_ok nmX8 7 rfl 0 rfl 4 (by decide) kw251 rfl rfl rfl (Nat.le_of_ble_eq_true rfl) rfl dX8_copyFrom_37 (fun H locs hw => ?_)
  refine lv_aload_n C.1 C.2.1 dX8_copyFrom_40 rfl (lv_at hl 0 rfl) ?_
  refine lv_aload_n C.1 C.2.1 dX8_copyFrom_41 rfl (lv_at hl 1 rfl) ?_
  refine x_get C hw iwX8 7 rfl 4 rfl 5 (by decide) kw256 rfl dX8_copyFrom_42 ?_
  refine x_put (w' := [(qa, .inr (7, [.int qo_hour, .int qo_heat, .int qo_black, .int qo_so, .int qo_cracked, .int qo_behind, .int qa_allSighs, .int qa_seed, .ref qa_pictures, .ref qa_shown, .ref qa_sighed])), (qa_pictures, eI G 6 qa_pictures_c), (qa_shown, eI G 6 qa_shown_c), (qa_sighed, eI G 8 qa_sighed_c), (qo, .inr (7, [.int qo_hour, .int qo_heat, .int qo_black, .int qo_so, .int qo_cracked, .int qo_behind, .int qo_allSighs, .int qo_seed, .ref qo_pictures, .ref qo_shown, .ref qo_sighed])), (qo_pictures, eI G 6 qo_pictures_c), (qo_shown, eI G 6 qo_shown_c), (qo_sighed, eI G 8 qo_sighed_c)]) C hw iwX8 tyX8_ok nmX8 7 rfl 0 rfl 5 (by decide) kw256 rfl rfl rfl (Nat.le_of_ble_eq_true rfl) rfl dX8_copyFrom_45 (fun H locs hw => ?_)
  refine lv_aload_n C.1 C.2.1 dX8_copyFrom_48 rfl (lv_at hl 0 rfl) ?_
  refine lv_aload_n C.1 C.2.1 dX8_copyFrom_49 rfl (lv_at hl 1 rfl) ?_
  refine x_get C hw iwX8 7 rfl 4 rfl 6 (by decide) kw260 rfl dX8_copyFrom_50 ?_
  refine x_put (w' := [(qa, .inr (7, [.int qo_hour, .int qo_heat, .int qo_black, .int qo_so, .int qo_cracked, .int qo_behind, .int qo_allSighs, .int qa_seed, .ref qa_pictures, .ref qa_shown, .ref qa_sighed])), (qa_pictures, eI G 6 qa_pictures_c), (qa_shown, eI G 6 qa_shown_c), (qa_sighed, eI G 8 qa_sighed_c), (qo, .inr (7, [.int qo_hour, .int qo_heat, .int qo_black, .int qo_so, .int qo_cracked, .int qo_behind, .int qo_allSighs, .int qo_seed, .ref qo_pictures, .ref qo_shown, .ref qo_sighed])), (qo_pictures, eI G 6 qo_pictures_c), (qo_shown, eI G 6 qo_shown_c), (qo_sighed, eI G 8 qo_sighed_c)]) C hw iwX8 tyX8_ok nmX8 7 rfl 0 rfl 6 (by decide) kw260 rfl rfl rfl (Nat.le_of_ble_eq_true rfl) rfl dX8_copyFrom_53 (fun H locs hw => ?_)
  refine lv_aload_n C.1 C.2.1 dX8_copyFrom_56 rfl (lv_at hl 1 rfl) ?_
  refine x_get C hw iwX8 7 rfl 4 rfl 8 (by decide) kw263 rfl dX8_copyFrom_57 ?_
  refine lv_iconst (v := 0) C.1 C.2.1 dX8_copyFrom_60 (by decide) ?_
  refine lv_aload_n C.1 C.2.1 dX8_copyFrom_61 rfl (lv_at hl 0 rfl) ?_
  refine x_get C hw iwX8 7 rfl 0 rfl 8 (by decide) kw263 rfl dX8_copyFrom_62 ?_
  refine lv_iconst (v := 0) C.1 C.2.1 dX8_copyFrom_65 (by decide) ?_
  refine lv_bipush (v := 6) C.1 C.2.1 dX8_copyFrom_66 (by decide) ?_
  obtain ⟨g1, eg1⟩ : ∃ z, va_cpy qo_pictures_c qa_pictures_c 0 0 6 = z := ⟨_, rfl⟩
  refine x_copyi (g' := g1) (w' := [(qa, .inr (7, [.int qo_hour, .int qo_heat, .int qo_black, .int qo_so, .int qo_cracked, .int qo_behind, .int qo_allSighs, .int qa_seed, .ref qa_pictures, .ref qa_shown, .ref qa_sighed])), (qa_pictures, eI G 6 g1), (qa_shown, eI G 6 qa_shown_c), (qa_sighed, eI G 8 qa_sighed_c), (qo, .inr (7, [.int qo_hour, .int qo_heat, .int qo_black, .int qo_so, .int qo_cracked, .int qo_behind, .int qo_allSighs, .int qo_seed, .ref qo_pictures, .ref qo_shown, .ref qo_sighed])), (qo_pictures, eI G 6 qo_pictures_c), (qo_shown, eI G 6 qo_shown_c), (qo_sighed, eI G 8 qo_sighed_c)]) C hw kw694 hl.1 5 1 rfl rfl (by decide) (by decide) (by decide) (Nat.le_of_ble_eq_true rfl) (Nat.le_of_ble_eq_true rfl) eg1 rfl (Nat.le_of_ble_eq_true rfl) (Nat.le_of_ble_eq_true rfl) dX8_copyFrom_68 (fun H locs hw => ?_)
  refine lv_aload_n C.1 C.2.1 dX8_copyFrom_71 rfl (lv_at hl 1 rfl) ?_
  refine x_get C hw iwX8 7 rfl 4 rfl 9 (by decide) kw267 rfl dX8_copyFrom_72 ?_
  refine lv_iconst (v := 0) C.1 C.2.1 dX8_copyFrom_75 (by decide) ?_
  refine lv_aload_n C.1 C.2.1 dX8_copyFrom_76 rfl (lv_at hl 0 rfl) ?_
  refine x_get C hw iwX8 7 rfl 0 rfl 9 (by decide) kw267 rfl dX8_copyFrom_77 ?_
  refine lv_iconst (v := 0) C.1 C.2.1 dX8_copyFrom_80 (by decide) ?_
  refine lv_bipush (v := 6) C.1 C.2.1 dX8_copyFrom_81 (by decide) ?_
  obtain ⟨g2, eg2⟩ : ∃ z, va_cpy qo_shown_c qa_shown_c 0 0 6 = z := ⟨_, rfl⟩
  refine x_copyi (g' := g2) (w' := [(qa, .inr (7, [.int qo_hour, .int qo_heat, .int qo_black, .int qo_so, .int qo_cracked, .int qo_behind, .int qo_allSighs, .int qa_seed, .ref qa_pictures, .ref qa_shown, .ref qa_sighed])), (qa_pictures, eI G 6 g1), (qa_shown, eI G 6 g2), (qa_sighed, eI G 8 qa_sighed_c), (qo, .inr (7, [.int qo_hour, .int qo_heat, .int qo_black, .int qo_so, .int qo_cracked, .int qo_behind, .int qo_allSighs, .int qo_seed, .ref qo_pictures, .ref qo_shown, .ref qo_sighed])), (qo_pictures, eI G 6 qo_pictures_c), (qo_shown, eI G 6 qo_shown_c), (qo_sighed, eI G 8 qo_sighed_c)]) C hw kw694 hl.1 6 2 rfl rfl (by decide) (by decide) (by decide) (Nat.le_of_ble_eq_true rfl) (Nat.le_of_ble_eq_true rfl) eg2 rfl (Nat.le_of_ble_eq_true rfl) (Nat.le_of_ble_eq_true rfl) dX8_copyFrom_83 (fun H locs hw => ?_)
  refine lv_aload_n C.1 C.2.1 dX8_copyFrom_86 rfl (lv_at hl 1 rfl) ?_
  refine x_get C hw iwX8 7 rfl 4 rfl 10 (by decide) kw269 rfl dX8_copyFrom_87 ?_
  refine lv_iconst (v := 0) C.1 C.2.1 dX8_copyFrom_90 (by decide) ?_
  refine lv_aload_n C.1 C.2.1 dX8_copyFrom_91 rfl (lv_at hl 0 rfl) ?_
  refine x_get C hw iwX8 7 rfl 0 rfl 10 (by decide) kw269 rfl dX8_copyFrom_92 ?_
  refine lv_iconst (v := 0) C.1 C.2.1 dX8_copyFrom_95 (by decide) ?_
  refine lv_bipush (v := 8) C.1 C.2.1 dX8_copyFrom_96 (by decide) ?_
  obtain ⟨g3, eg3⟩ : ∃ z, va_cpy qo_sighed_c qa_sighed_c 0 0 8 = z := ⟨_, rfl⟩
  refine x_copyi (g' := g3) (w' := [(qa, .inr (7, [.int qo_hour, .int qo_heat, .int qo_black, .int qo_so, .int qo_cracked, .int qo_behind, .int qo_allSighs, .int qa_seed, .ref qa_pictures, .ref qa_shown, .ref qa_sighed])), (qa_pictures, eI G 6 g1), (qa_shown, eI G 6 g2), (qa_sighed, eI G 8 g3), (qo, .inr (7, [.int qo_hour, .int qo_heat, .int qo_black, .int qo_so, .int qo_cracked, .int qo_behind, .int qo_allSighs, .int qo_seed, .ref qo_pictures, .ref qo_shown, .ref qo_sighed])), (qo_pictures, eI G 6 qo_pictures_c), (qo_shown, eI G 6 qo_shown_c), (qo_sighed, eI G 8 qo_sighed_c)]) C hw kw694 hl.1 7 3 rfl rfl (by decide) (by decide) (by decide) (Nat.le_of_ble_eq_true rfl) (Nat.le_of_ble_eq_true rfl) eg3 rfl (Nat.le_of_ble_eq_true rfl) (Nat.le_of_ble_eq_true rfl) dX8_copyFrom_98 (fun H locs hw => ?_)
  exact x_retvQ hQ B hw ⟨g1, g2, g3, rfl⟩ (Nat.le_of_ble_eq_true rfl) (Nat.le_of_ble_eq_true rfl) dX8_copyFrom_101
theorem dX8_waitsFor_0 : decode cX8_waitsFor 0 = .ok (.aload_n 1, 1) := by decide +kernel
theorem dX8_waitsFor_1 : decode cX8_waitsFor 1 = .ok (.getfield 74, 3) := by decide +kernel
theorem dX8_waitsFor_4 : decode cX8_waitsFor 4 = .ok (.iload_n 2, 1) := by decide +kernel
theorem dX8_waitsFor_5 : decode cX8_waitsFor 5 = .ok (.iaload, 1) := by decide +kernel
theorem dX8_waitsFor_6 : decode cX8_waitsFor 6 = .ok (.istore_n 3, 1) := by decide +kernel
theorem dX8_waitsFor_7 : decode cX8_waitsFor 7 = .ok (.iload_n 3, 1) := by decide +kernel
theorem dX8_waitsFor_8 : decode cX8_waitsFor 8 = .ok (.iconst (-1), 1) := by decide +kernel
theorem dX8_waitsFor_9 : decode cX8_waitsFor 9 = .ok (.if_icmp .eq 18, 3) := by decide +kernel
theorem dX8_waitsFor_27 : decode cX8_waitsFor 27 = .ok (.iconst (-1), 1) := by decide +kernel
theorem dX8_waitsFor_28 : decode cX8_waitsFor 28 = .ok (.ireturn, 1) := by decide +kernel
theorem dX8_waitsFor_12 : decode cX8_waitsFor 12 = .ok (.aload_n 0, 1) := by decide +kernel
theorem dX8_waitsFor_13 : decode cX8_waitsFor 13 = .ok (.getfield 32, 3) := by decide +kernel
theorem dX8_waitsFor_16 : decode cX8_waitsFor 16 = .ok (.iload_n 3, 1) := by decide +kernel
theorem dX8_waitsFor_17 : decode cX8_waitsFor 17 = .ok (.ishr, 1) := by decide +kernel
theorem dX8_waitsFor_18 : decode cX8_waitsFor 18 = .ok (.iconst 1, 1) := by decide +kernel
theorem dX8_waitsFor_19 : decode cX8_waitsFor 19 = .ok (.iand, 1) := by decide +kernel
theorem dX8_waitsFor_20 : decode cX8_waitsFor 20 = .ok (.ifCond .ne 7, 3) := by decide +kernel
theorem dX8_waitsFor_23 : decode cX8_waitsFor 23 = .ok (.iload_n 3, 1) := by decide +kernel
theorem dX8_waitsFor_24 : decode cX8_waitsFor 24 = .ok (.goto 4, 3) := by decide +kernel
set_option maxHeartbeats 4000000 in
set_option maxRecDepth 100000 in
theorem s_X8_waitsFor {l : Launch} {G : Gc} (qa : Nat) (qs : Nat) (a1 : Int32) (qa_hour : Int32) (qa_heat : Int32) (qa_black : Int32) (qa_so : Int32) (qa_cracked : Int32) (qa_behind : Int32) (qa_allSighs : Int32) (qa_seed : Int32) (qa_pictures : Nat) (qa_shown : Nat) (qa_sighed : Nat) (qs_slides : Int32) (qs_hearers : Int32) (qs_nears : Int32) (qs_lines : Int32) (qs_pass : Int32) (qs_spread : Int32) (qs_lamp : Int32) (qs_behind : Int32) (qs_settingsTold : Int32) (qs_slideNames : Nat) (qs_pictures : Nat) (qs_heats : Nat) (qs_after : Nat) (qs_hearerNames : Nat) (qs_needs : Nat) (qs_likes : Nat) (qs_hates : Nat) (qs_near : Nat) (qs_after_c : Nat → Int32) (hi_a1 : 0 ≤ a1.toInt ∧ a1.toInt ≤ 5) (hf_qs_after_c : inA 6 (-1) 5 qs_after_c) : Ci l yX8_waitsFor cX8_waitsFor 4 (some .int) 0 0 0 G [.ref qa, .ref qs, .int a1] [(qa, .inr (7, [.int qa_hour, .int qa_heat, .int qa_black, .int qa_so, .int qa_cracked, .int qa_behind, .int qa_allSighs, .int qa_seed, .ref qa_pictures, .ref qa_shown, .ref qa_sighed])), (qs, .inr (4, [.int qs_slides, .int qs_hearers, .int qs_nears, .int qs_lines, .int qs_pass, .int qs_spread, .int qs_lamp, .int qs_behind, .int qs_settingsTold, .ref qs_slideNames, .ref qs_pictures, .ref qs_heats, .ref qs_after, .ref qs_hearerNames, .ref qs_needs, .ref qs_likes, .ref qs_hates, .ref qs_near])), (qs_after, eI G 6 qs_after_c)] (fun (r9 : Int32) (u9 : va_W) => ∃ (r_x : Int32), r9 = r_x ∧ u9 = [(qa, .inr (7, [.int qa_hour, .int qa_heat, .int qa_black, .int qa_so, .int qa_cracked, .int qa_behind, .int qa_allSighs, .int qa_seed, .ref qa_pictures, .ref qa_shown, .ref qa_sighed])), (qs, .inr (4, [.int qs_slides, .int qs_hearers, .int qs_nears, .int qs_lines, .int qs_pass, .int qs_spread, .int qs_lamp, .int qs_behind, .int qs_settingsTold, .ref qs_slideNames, .ref qs_pictures, .ref qs_heats, .ref qs_after, .ref qs_hearerNames, .ref qs_needs, .ref qs_likes, .ref qs_hates, .ref qs_near])), (qs_after, eI G 6 qs_after_c)] ∧ ((-1) ≤ r_x.toInt ∧ r_x.toInt ≤ 5)) := by
  refine Ci.ofQ (by decide) (Nat.le_of_ble_eq_true rfl) ?_
  intro p e s m below meth c ls A args Q hQ B hw hl
  have C : CallFix p m c cX8_waitsFor 4 s args gw "LanternState$State" := B.1
  have hl : lv_has ls 4 [(0, .ref qa), (1, .ref qs), (2, .int a1)] := hl
  refine lv_aload_n C.1 C.2.1 dX8_waitsFor_0 rfl (lv_at hl 1 rfl) ?_
  refine x_get C hw iwX5 4 rfl 1 rfl 12 (by decide) kw183 rfl dX8_waitsFor_1 ?_
  refine lv_iload_n C.1 C.2.1 dX8_waitsFor_4 rfl (lv_at hl 2 rfl) ?_
  refine x_iald (v := (qs_after_c a1.toNatClampNeg)) C hw 2 rfl (i_in (by omega) (by omega)) rfl dX8_waitsFor_5 (x_genP (fun z : Int32 => -1 ≤ z.toInt ∧ z.toInt ≤ 5) (hf_qs_after_c _ (i_cl (by omega) (by omega))) (fun v1 hv1 => ?_))
  refine lv_istore_n (lv' := [(3, .int v1), (0, .ref qa), (1, .ref qs), (2, .int a1)]) C.1 C.2.1 dX8_waitsFor_6 rfl hl (by decide) rfl (fun ls hl => ?_)
  refine lv_iload_n C.1 C.2.1 dX8_waitsFor_7 rfl (lv_at hl 0 rfl) ?_
  refine lv_iconst (v := (-1)) C.1 C.2.1 dX8_waitsFor_8 (by decide) ?_
  refine lv_icmp_eq (tgt := 27) C.1 C.2.1 dX8_waitsFor_9 (by decide) (fun c2 => ?_) (fun c2 => ?_)
  · skip
    have c2 : v1.toInt = (-1) := i_eqT (X := v1.toInt) (Y := (-1)) rfl rfl c2
    refine lv_iconst (v := (-1)) C.1 C.2.1 dX8_waitsFor_27 (by decide) ?_
    exact x_retiQ hQ B hw ⟨(-1), rfl, rfl, (by decide)⟩ (Nat.le_of_ble_eq_true rfl) (Nat.le_of_ble_eq_true rfl) dX8_waitsFor_28
  · skip
    have c2 : v1.toInt ≠ (-1) := i_eqF (X := v1.toInt) (Y := (-1)) rfl rfl c2
    refine lv_aload_n C.1 C.2.1 dX8_waitsFor_12 rfl (lv_at hl 1 rfl) ?_
    refine x_get C hw iwX8 7 rfl 0 rfl 3 (by decide) kw247 rfl dX8_waitsFor_13 ?_
    refine lv_iload_n C.1 C.2.1 dX8_waitsFor_16 rfl (lv_at hl 0 rfl) ?_
    refine lv_ishr C.1 C.2.1 dX8_waitsFor_17 (x_gen (fun v3 => ?_))
    refine lv_iconst (v := 1) C.1 C.2.1 dX8_waitsFor_18 (by decide) ?_
    refine lv_iand C.1 C.2.1 dX8_waitsFor_19 (x_genP (fun z : Int32 => 0 ≤ z.toInt ∧ z.toInt ≤ 1) (i_andR 1 rfl (by decide) rfl) (fun v4 hv4 => ?_))
    refine lv_if_ne (tgt := 27) C.1 C.2.1 dX8_waitsFor_20 (by decide) (fun c5 => ?_) (fun c5 => ?_)
    · skip
      have c5 : v4.toInt ≠ 0 := i_eqF (X := v4.toInt) (Y := 0) rfl rfl c5
      refine lv_iconst (v := (-1)) C.1 C.2.1 dX8_waitsFor_27 (by decide) ?_
      exact x_retiQ hQ B hw ⟨(-1), rfl, rfl, (by decide)⟩ (Nat.le_of_ble_eq_true rfl) (Nat.le_of_ble_eq_true rfl) dX8_waitsFor_28
    · skip
      have c5 : v4.toInt = 0 := i_eqT (X := v4.toInt) (Y := 0) rfl rfl c5
      refine lv_iload_n C.1 C.2.1 dX8_waitsFor_23 rfl (lv_at hl 0 rfl) ?_
      refine lv_goto (tgt := 28) C.1 C.2.1 dX8_waitsFor_24 (by decide) ?_
      exact x_retiQ hQ B hw ⟨v1, rfl, rfl, (by omega)⟩ (Nat.le_of_ble_eq_true rfl) (Nat.le_of_ble_eq_true rfl) dX8_waitsFor_28
theorem dX8_whyNotShow_0 : decode cX8_whyNotShow 0 = .ok (.aload_n 0, 1) := by decide +kernel
theorem dX8_whyNotShow_1 : decode cX8_whyNotShow 1 = .ok (.getfield 35, 3) := by decide +kernel
theorem dX8_whyNotShow_4 : decode cX8_whyNotShow 4 = .ok (.iload_n 2, 1) := by decide +kernel
theorem dX8_whyNotShow_5 : decode cX8_whyNotShow 5 = .ok (.iand, 1) := by decide +kernel
theorem dX8_whyNotShow_6 : decode cX8_whyNotShow 6 = .ok (.ifCond .eq 5, 3) := by decide +kernel
theorem dX8_whyNotShow_11 : decode cX8_whyNotShow 11 = .ok (.iconst 0, 1) := by decide +kernel
theorem dX8_whyNotShow_12 : decode cX8_whyNotShow 12 = .ok (.istore_n 3, 1) := by decide +kernel
theorem dX8_whyNotShow_13 : decode cX8_whyNotShow 13 = .ok (.iload_n 3, 1) := by decide +kernel
theorem dX8_whyNotShow_14 : decode cX8_whyNotShow 14 = .ok (.aload_n 1, 1) := by decide +kernel
theorem dX8_whyNotShow_15 : decode cX8_whyNotShow 15 = .ok (.getfield 68, 3) := by decide +kernel
theorem dX8_whyNotShow_18 : decode cX8_whyNotShow 18 = .ok (.if_icmp .ge 29, 3) := by decide +kernel
theorem dX8_whyNotShow_47 : decode cX8_whyNotShow 47 = .ok (.aload_n 0, 1) := by decide +kernel
theorem dX8_whyNotShow_48 : decode cX8_whyNotShow 48 = .ok (.getfield 28, 3) := by decide +kernel
theorem dX8_whyNotShow_51 : decode cX8_whyNotShow 51 = .ok (.ifCond .eq 7, 3) := by decide +kernel
theorem dX8_whyNotShow_58 : decode cX8_whyNotShow 58 = .ok (.iconst 0, 1) := by decide +kernel
theorem dX8_whyNotShow_59 : decode cX8_whyNotShow 59 = .ok (.ireturn, 1) := by decide +kernel
theorem dX8_whyNotShow_54 : decode cX8_whyNotShow 54 = .ok (.iconst 3, 1) := by decide +kernel
theorem dX8_whyNotShow_55 : decode cX8_whyNotShow 55 = .ok (.goto 4, 3) := by decide +kernel
theorem dX8_whyNotShow_21 : decode cX8_whyNotShow 21 = .ok (.iload_n 2, 1) := by decide +kernel
theorem dX8_whyNotShow_22 : decode cX8_whyNotShow 22 = .ok (.iload_n 3, 1) := by decide +kernel
theorem dX8_whyNotShow_23 : decode cX8_whyNotShow 23 = .ok (.ishr, 1) := by decide +kernel
theorem dX8_whyNotShow_24 : decode cX8_whyNotShow 24 = .ok (.iconst 1, 1) := by decide +kernel
theorem dX8_whyNotShow_25 : decode cX8_whyNotShow 25 = .ok (.iand, 1) := by decide +kernel
theorem dX8_whyNotShow_26 : decode cX8_whyNotShow 26 = .ok (.ifCond .eq 15, 3) := by decide +kernel
theorem dX8_whyNotShow_29 : decode cX8_whyNotShow 29 = .ok (.aload_n 0, 1) := by decide +kernel
theorem dX8_whyNotShow_30 : decode cX8_whyNotShow 30 = .ok (.aload_n 1, 1) := by decide +kernel
theorem dX8_whyNotShow_31 : decode cX8_whyNotShow 31 = .ok (.iload_n 3, 1) := by decide +kernel
theorem dX8_whyNotShow_32 : decode cX8_whyNotShow 32 = .ok (.invokevirtual 71, 3) := by decide +kernel
theorem mwX8_waitsFor : MwV yX8_waitsFor cX8_waitsFor 4 (some .int) 2 := ⟨⟨kw706, kw8, by decide +kernel⟩, kw704, kw705⟩
theorem dX8_whyNotShow_35 : decode cX8_whyNotShow 35 = .ok (.iconst (-1), 1) := by decide +kernel
theorem dX8_whyNotShow_36 : decode cX8_whyNotShow 36 = .ok (.if_icmp .eq 5, 3) := by decide +kernel
theorem dX8_whyNotShow_39 : decode cX8_whyNotShow 39 = .ok (.iconst 2, 1) := by decide +kernel
theorem dX8_whyNotShow_40 : decode cX8_whyNotShow 40 = .ok (.ireturn, 1) := by decide +kernel
theorem dX8_whyNotShow_41 : decode cX8_whyNotShow 41 = .ok (.iinc 3 1, 3) := by decide +kernel
theorem dX8_whyNotShow_44 : decode cX8_whyNotShow 44 = .ok (.goto (-31), 3) := by decide +kernel
theorem dX8_whyNotShow_9 : decode cX8_whyNotShow 9 = .ok (.iconst 1, 1) := by decide +kernel
theorem dX8_whyNotShow_10 : decode cX8_whyNotShow 10 = .ok (.ireturn, 1) := by decide +kernel
set_option maxHeartbeats 4000000 in
set_option maxRecDepth 100000 in
theorem s_X8_whyNotShow {l : Launch} {G : Gc} (qa : Nat) (qs : Nat) (a1 : Int32) (qa_hour : Int32) (qa_heat : Int32) (qa_black : Int32) (qa_so : Int32) (qa_cracked : Int32) (qa_behind : Int32) (qa_allSighs : Int32) (qa_seed : Int32) (qa_pictures : Nat) (qa_shown : Nat) (qa_sighed : Nat) (qs_slides : Int32) (qs_hearers : Int32) (qs_nears : Int32) (qs_lines : Int32) (qs_pass : Int32) (qs_spread : Int32) (qs_lamp : Int32) (qs_behind : Int32) (qs_settingsTold : Int32) (qs_slideNames : Nat) (qs_pictures : Nat) (qs_heats : Nat) (qs_after : Nat) (qs_hearerNames : Nat) (qs_needs : Nat) (qs_likes : Nat) (qs_hates : Nat) (qs_near : Nat) (qs_after_c : Nat → Int32) (hi_qa_black : 0 ≤ qa_black.toInt ∧ qa_black.toInt ≤ 1) (hi_qs_slides : 0 ≤ qs_slides.toInt ∧ qs_slides.toInt ≤ 6) (hf_qs_after_c : inA 6 (-1) 5 qs_after_c) : Ci l yX8_whyNotShow cX8_whyNotShow 4 (some .int) 1 0 0 G [.ref qa, .ref qs, .int a1] [(qa, .inr (7, [.int qa_hour, .int qa_heat, .int qa_black, .int qa_so, .int qa_cracked, .int qa_behind, .int qa_allSighs, .int qa_seed, .ref qa_pictures, .ref qa_shown, .ref qa_sighed])), (qs, .inr (4, [.int qs_slides, .int qs_hearers, .int qs_nears, .int qs_lines, .int qs_pass, .int qs_spread, .int qs_lamp, .int qs_behind, .int qs_settingsTold, .ref qs_slideNames, .ref qs_pictures, .ref qs_heats, .ref qs_after, .ref qs_hearerNames, .ref qs_needs, .ref qs_likes, .ref qs_hates, .ref qs_near])), (qs_after, eI G 6 qs_after_c)] (fun (r9 : Int32) (u9 : va_W) => ∃ (r_x : Int32), r9 = r_x ∧ u9 = [(qa, .inr (7, [.int qa_hour, .int qa_heat, .int qa_black, .int qa_so, .int qa_cracked, .int qa_behind, .int qa_allSighs, .int qa_seed, .ref qa_pictures, .ref qa_shown, .ref qa_sighed])), (qs, .inr (4, [.int qs_slides, .int qs_hearers, .int qs_nears, .int qs_lines, .int qs_pass, .int qs_spread, .int qs_lamp, .int qs_behind, .int qs_settingsTold, .ref qs_slideNames, .ref qs_pictures, .ref qs_heats, .ref qs_after, .ref qs_hearerNames, .ref qs_needs, .ref qs_likes, .ref qs_hates, .ref qs_near])), (qs_after, eI G 6 qs_after_c)] ∧ (0 ≤ r_x.toInt ∧ r_x.toInt ≤ 3)) := by
  refine Ci.ofQ (by decide) (Nat.le_of_ble_eq_true rfl) ?_
  intro p e s m below meth c ls A args Q hQ B hw hl
  have C : CallFix p m c cX8_whyNotShow 4 s args gw "LanternState$State" := B.1
  have hl : lv_has ls 4 [(0, .ref qa), (1, .ref qs), (2, .int a1)] := hl
  refine lv_aload_n C.1 C.2.1 dX8_whyNotShow_0 rfl (lv_at hl 0 rfl) ?_
  refine x_get C hw iwX8 7 rfl 0 rfl 4 (by decide) kw251 rfl dX8_whyNotShow_1 ?_
  refine lv_iload_n C.1 C.2.1 dX8_whyNotShow_4 rfl (lv_at hl 2 rfl) ?_
  refine lv_iand C.1 C.2.1 dX8_whyNotShow_5 (x_gen (fun v1 => ?_))
  refine lv_if_eq (tgt := 11) C.1 C.2.1 dX8_whyNotShow_6 (by decide) (fun c2 => ?_) (fun c2 => ?_)
  · skip
    have c2 : v1.toInt = 0 := i_eqT (X := v1.toInt) (Y := 0) rfl rfl c2
    have bc2_v1 := i_bd v1
    refine lv_iconst (v := 0) C.1 C.2.1 dX8_whyNotShow_11 (by decide) ?_
    refine lv_istore_n (lv' := [(3, .int 0), (0, .ref qa), (1, .ref qs), (2, .int a1)]) C.1 C.2.1 dX8_whyNotShow_12 rfl hl (by decide) rfl (fun ls hl => ?_)
    have loopJ80 : ∀ (n9 : Nat) (j79 : Int32), (2147483647 - j79.toInt).toNat < n9 → (0 ≤ j79.toInt ∧ j79.toInt ≤ 6) → ∀ (H : Heap) (locs : List Loc) (ls : Array Slot), Wd G s A [(qa, .inr (7, [.int qa_hour, .int qa_heat, .int qa_black, .int qa_so, .int qa_cracked, .int qa_behind, .int qa_allSighs, .int qa_seed, .ref qa_pictures, .ref qa_shown, .ref qa_sighed])), (qs, .inr (4, [.int qs_slides, .int qs_hearers, .int qs_nears, .int qs_lines, .int qs_pass, .int qs_spread, .int qs_lamp, .int qs_behind, .int qs_settingsTold, .ref qs_slideNames, .ref qs_pictures, .ref qs_heats, .ref qs_after, .ref qs_hearerNames, .ref qs_needs, .ref qs_likes, .ref qs_hates, .ref qs_near])), (qs_after, eI G 6 qs_after_c)] H locs → lv_has ls 4 [(3, .int j79), (0, .ref qa), (1, .ref qs), (2, .int a1)] → W p l e (rmD 1 0 0) s m args below meth c H locs 0 0 Q (F0 m 13 ls []) := by
      intro n9
      induction n9 with
      | zero => intro j79 h9; exact absurd h9 (Nat.not_lt_zero _)
      | succ n9 ihJ80 =>
        intro j79 h9J80 hJ80_0 H locs ls hw hl
        have hbj79 := i_bd j79
        refine lv_iload_n C.1 C.2.1 dX8_whyNotShow_13 rfl (lv_at hl 0 rfl) ?_
        refine lv_aload_n C.1 C.2.1 dX8_whyNotShow_14 rfl (lv_at hl 2 rfl) ?_
        refine x_get C hw iwX5 4 rfl 1 rfl 0 (by decide) kw149 rfl dX8_whyNotShow_15 ?_
        refine lv_icmp_ge (tgt := 47) C.1 C.2.1 dX8_whyNotShow_18 (by decide) (fun c94 => ?_) (fun c94 => ?_)
        · skip
          have c94 : qs_slides.toInt ≤ j79.toInt := i_leT (X := qs_slides.toInt) (Y := j79.toInt) rfl rfl c94
          refine lv_aload_n C.1 C.2.1 dX8_whyNotShow_47 rfl (lv_at hl 1 rfl) ?_
          refine x_get C hw iwX8 7 rfl 0 rfl 2 (by decide) kw243 rfl dX8_whyNotShow_48 ?_
          refine lv_if_eq (tgt := 58) C.1 C.2.1 dX8_whyNotShow_51 (by decide) (fun c95 => ?_) (fun c95 => ?_)
          · skip
            have c95 : qa_black.toInt = 0 := i_eqT (X := qa_black.toInt) (Y := 0) rfl rfl c95
            refine lv_iconst (v := 0) C.1 C.2.1 dX8_whyNotShow_58 (by decide) ?_
            exact x_retiQ hQ B hw ⟨0, rfl, rfl, (by decide)⟩ (Nat.le_of_ble_eq_true rfl) (Nat.le_of_ble_eq_true rfl) dX8_whyNotShow_59
          · skip
            have c95 : qa_black.toInt ≠ 0 := i_eqF (X := qa_black.toInt) (Y := 0) rfl rfl c95
            refine lv_iconst (v := 3) C.1 C.2.1 dX8_whyNotShow_54 (by decide) ?_
            refine lv_goto (tgt := 59) C.1 C.2.1 dX8_whyNotShow_55 (by decide) ?_
            exact x_retiQ hQ B hw ⟨3, rfl, rfl, (by decide)⟩ (Nat.le_of_ble_eq_true rfl) (Nat.le_of_ble_eq_true rfl) dX8_whyNotShow_59
        · skip
          have c94 : j79.toInt < qs_slides.toInt := i_leF (X := qs_slides.toInt) (Y := j79.toInt) rfl rfl c94
          refine lv_iload_n C.1 C.2.1 dX8_whyNotShow_21 rfl (lv_at hl 3 rfl) ?_
          refine lv_iload_n C.1 C.2.1 dX8_whyNotShow_22 rfl (lv_at hl 0 rfl) ?_
          refine lv_ishr C.1 C.2.1 dX8_whyNotShow_23 (x_gen (fun v96 => ?_))
          refine lv_iconst (v := 1) C.1 C.2.1 dX8_whyNotShow_24 (by decide) ?_
          refine lv_iand C.1 C.2.1 dX8_whyNotShow_25 (x_genP (fun z : Int32 => 0 ≤ z.toInt ∧ z.toInt ≤ 1) (i_andR 1 rfl (by decide) rfl) (fun v97 hv97 => ?_))
          have J103 : ∀ (H : Heap) (locs : List Loc) (ls : Array Slot), Wd G s A [(qa, .inr (7, [.int qa_hour, .int qa_heat, .int qa_black, .int qa_so, .int qa_cracked, .int qa_behind, .int qa_allSighs, .int qa_seed, .ref qa_pictures, .ref qa_shown, .ref qa_sighed])), (qs, .inr (4, [.int qs_slides, .int qs_hearers, .int qs_nears, .int qs_lines, .int qs_pass, .int qs_spread, .int qs_lamp, .int qs_behind, .int qs_settingsTold, .ref qs_slideNames, .ref qs_pictures, .ref qs_heats, .ref qs_after, .ref qs_hearerNames, .ref qs_needs, .ref qs_likes, .ref qs_hates, .ref qs_near])), (qs_after, eI G 6 qs_after_c)] H locs → lv_has ls 4 [(3, .int j79), (0, .ref qa), (1, .ref qs), (2, .int a1)] → W p l e (rmD 1 0 0) s m args below meth c H locs 0 0 Q (F0 m 41 ls []) := by
            intro   H locs ls hw hl
            obtain ⟨v105, ev105⟩ : ∃ z : Int32, j79 + 1 = z := ⟨_, rfl⟩
            have hv105 : v105.toInt = j79.toInt + 1 := by rw [← ev105]; exact i_add rfl rfl (by omega) (by omega)
            refine lv_iinc (v := v105) (lv' := [(3, .int v105), (0, .ref qa), (1, .ref qs), (2, .int a1)]) C.1 C.2.1 dX8_whyNotShow_41 hl (k := 0) rfl ev105 (by decide) rfl (fun ls hl => ?_)
            refine lv_goto (tgt := 13) C.1 C.2.1 dX8_whyNotShow_44 (by decide) ?_
            exact ihJ80 v105 (by omega) (by omega) _ _ _ hw (lv_sub hl [0, 1, 2, 3] rfl)
          refine lv_if_eq (tgt := 41) C.1 C.2.1 dX8_whyNotShow_26 (by decide) (fun c98 => ?_) (fun c98 => ?_)
          · skip
            have c98 : v97.toInt = 0 := i_eqT (X := v97.toInt) (Y := 0) rfl rfl c98
            exact J103    _ _ _ hw (lv_sub hl [0, 1, 2, 3] rfl)
          · skip
            have c98 : v97.toInt ≠ 0 := i_eqF (X := v97.toInt) (Y := 0) rfl rfl c98
            refine lv_aload_n C.1 C.2.1 dX8_whyNotShow_29 rfl (lv_at hl 1 rfl) ?_
            refine lv_aload_n C.1 C.2.1 dX8_whyNotShow_30 rfl (lv_at hl 2 rfl) ?_
            refine lv_iload_n C.1 C.2.1 dX8_whyNotShow_31 rfl (lv_at hl 0 rfl) ?_
            refine x_calliV (As := [.ref qs, .int j79]) (rest := []) (wr := []) C hw (s_X8_waitsFor qa qs j79 qa_hour qa_heat qa_black qa_so qa_cracked qa_behind qa_allSighs qa_seed qa_pictures qa_shown qa_sighed qs_slides qs_hearers qs_nears qs_lines qs_pass qs_spread qs_lamp qs_behind qs_settingsTold qs_slideNames qs_pictures qs_heats qs_after qs_hearerNames qs_needs qs_likes qs_hates qs_near qs_after_c (by omega) hf_qs_after_c) mwX8_waitsFor kw703 [0, 1, 2] [] rfl rfl rfl rfl (by decide) 0 rfl rfl rfl rfl hl.1 rfl (Nat.le_of_ble_eq_true rfl) ⟨(Nat.le_of_ble_eq_true rfl), (Nat.le_of_ble_eq_true rfl)⟩ ⟨(Nat.le_of_ble_eq_true rfl), (Nat.le_of_ble_eq_true rfl)⟩ dX8_whyNotShow_32 (fun r106 u9 H locs hp9 hw => ?_)
            obtain ⟨x107, rfl, rfl, hf108⟩ := hp9
            have hw : Wd G s A [(qa, .inr (7, [.int qa_hour, .int qa_heat, .int qa_black, .int qa_so, .int qa_cracked, .int qa_behind, .int qa_allSighs, .int qa_seed, .ref qa_pictures, .ref qa_shown, .ref qa_sighed])), (qs, .inr (4, [.int qs_slides, .int qs_hearers, .int qs_nears, .int qs_lines, .int qs_pass, .int qs_spread, .int qs_lamp, .int qs_behind, .int qs_settingsTold, .ref qs_slideNames, .ref qs_pictures, .ref qs_heats, .ref qs_after, .ref qs_hearerNames, .ref qs_needs, .ref qs_likes, .ref qs_hates, .ref qs_near])), (qs_after, eI G 6 qs_after_c)] H _ := hw
            refine lv_iconst (v := (-1)) C.1 C.2.1 dX8_whyNotShow_35 (by decide) ?_
            refine lv_icmp_eq (tgt := 41) C.1 C.2.1 dX8_whyNotShow_36 (by decide) (fun c109 => ?_) (fun c109 => ?_)
            · skip
              have c109 : r106.toInt = (-1) := i_eqT (X := r106.toInt) (Y := (-1)) rfl rfl c109
              exact J103    _ _ _ hw (lv_sub hl [0, 1, 2, 3] rfl)
            · skip
              have c109 : r106.toInt ≠ (-1) := i_eqF (X := r106.toInt) (Y := (-1)) rfl rfl c109
              refine lv_iconst (v := 2) C.1 C.2.1 dX8_whyNotShow_39 (by decide) ?_
              exact x_retiQ hQ B hw ⟨2, rfl, rfl, (by decide)⟩ (Nat.le_of_ble_eq_true rfl) (Nat.le_of_ble_eq_true rfl) dX8_whyNotShow_40
    exact loopJ80 _ 0 (Nat.lt_succ_self _) (by decide) _ _ _ hw (lv_sub hl [0, 1, 2, 3] rfl)
  · skip
    have c2 : v1.toInt ≠ 0 := i_eqF (X := v1.toInt) (Y := 0) rfl rfl c2
    have bc2_v1 := i_bd v1
    refine lv_iconst (v := 1) C.1 C.2.1 dX8_whyNotShow_9 (by decide) ?_
    exact x_retiQ hQ B hw ⟨1, rfl, rfl, (by decide)⟩ (Nat.le_of_ble_eq_true rfl) (Nat.le_of_ble_eq_true rfl) dX8_whyNotShow_10
theorem dX8_project_0 : decode cX8_project 0 = .ok (.iconst 0, 1) := by decide +kernel
theorem dX8_project_1 : decode cX8_project 1 = .ok (.istore 4, 2) := by decide +kernel
theorem dX8_project_3 : decode cX8_project 3 = .ok (.iload 4, 2) := by decide +kernel
theorem dX8_project_5 : decode cX8_project 5 = .ok (.aload_n 1, 1) := by decide +kernel
theorem dX8_project_6 : decode cX8_project 6 = .ok (.getfield 68, 3) := by decide +kernel
theorem dX8_project_9 : decode cX8_project 9 = .ok (.if_icmp .ge 45, 3) := by decide +kernel
theorem dX8_project_12 : decode cX8_project 12 = .ok (.iload_n 2, 1) := by decide +kernel
theorem dX8_project_13 : decode cX8_project 13 = .ok (.iload 4, 2) := by decide +kernel
theorem dX8_project_15 : decode cX8_project 15 = .ok (.ishr, 1) := by decide +kernel
theorem dX8_project_16 : decode cX8_project 16 = .ok (.iconst 1, 1) := by decide +kernel
theorem dX8_project_17 : decode cX8_project 17 = .ok (.iand, 1) := by decide +kernel
theorem dX8_project_18 : decode cX8_project 18 = .ok (.ifCond .eq 30, 3) := by decide +kernel
theorem dX8_project_21 : decode cX8_project 21 = .ok (.aload_n 0, 1) := by decide +kernel
theorem dX8_project_22 : decode cX8_project 22 = .ok (.dup, 1) := by decide +kernel
theorem dX8_project_23 : decode cX8_project 23 = .ok (.getfield 25, 3) := by decide +kernel
theorem dX8_project_26 : decode cX8_project 26 = .ok (.aload_n 1, 1) := by decide +kernel
theorem dX8_project_27 : decode cX8_project 27 = .ok (.getfield 77, 3) := by decide +kernel
theorem dX8_project_30 : decode cX8_project 30 = .ok (.iload 4, 2) := by decide +kernel
theorem dX8_project_32 : decode cX8_project 32 = .ok (.iaload, 1) := by decide +kernel
theorem dX8_project_33 : decode cX8_project 33 = .ok (.iadd, 1) := by decide +kernel
theorem dX8_project_34 : decode cX8_project 34 = .ok (.putfield 25, 3) := by decide +kernel
theorem dX8_project_37 : decode cX8_project 37 = .ok (.aload_n 0, 1) := by decide +kernel
theorem dX8_project_38 : decode cX8_project 38 = .ok (.getfield 15, 3) := by decide +kernel
theorem dX8_project_41 : decode cX8_project 41 = .ok (.iload 4, 2) := by decide +kernel
theorem dX8_project_43 : decode cX8_project 43 = .ok (.dup2, 1) := by decide +kernel
theorem dX8_project_44 : decode cX8_project 44 = .ok (.iaload, 1) := by decide +kernel
theorem dX8_project_45 : decode cX8_project 45 = .ok (.iconst 1, 1) := by decide +kernel
theorem dX8_project_46 : decode cX8_project 46 = .ok (.iadd, 1) := by decide +kernel
theorem dX8_project_47 : decode cX8_project 47 = .ok (.iastore, 1) := by decide +kernel
theorem dX8_project_48 : decode cX8_project 48 = .ok (.iinc 4 1, 3) := by decide +kernel
theorem dX8_project_51 : decode cX8_project 51 = .ok (.goto (-48), 3) := by decide +kernel
theorem dX8_project_54 : decode cX8_project 54 = .ok (.aload_n 0, 1) := by decide +kernel
theorem dX8_project_55 : decode cX8_project 55 = .ok (.getfield 25, 3) := by decide +kernel
theorem dX8_project_58 : decode cX8_project 58 = .ok (.aload_n 1, 1) := by decide +kernel
theorem dX8_project_59 : decode cX8_project 59 = .ok (.getfield 80, 3) := by decide +kernel
theorem dX8_project_62 : decode cX8_project 62 = .ok (.if_icmp .le 21, 3) := by decide +kernel
theorem dX8_project_83 : decode cX8_project 83 = .ok (.aload_n 1, 1) := by decide +kernel
theorem dX8_project_84 : decode cX8_project 84 = .ok (.iload_n 3, 1) := by decide +kernel
theorem dX8_project_85 : decode cX8_project 85 = .ok (.aload_n 0, 1) := by decide +kernel
theorem dX8_project_86 : decode cX8_project 86 = .ok (.getfield 43, 3) := by decide +kernel
theorem dX8_project_89 : decode cX8_project 89 = .ok (.invokevirtual 83, 3) := by decide +kernel
theorem mwX5_sighers : MwV yX5_sighers cX5_sighers 3 (some .int) 2 := ⟨⟨kw715, kw7, by decide +kernel⟩, kw713, kw714⟩
theorem dX8_project_92 : decode cX8_project 92 = .ok (.istore 4, 2) := by decide +kernel
theorem dX8_project_94 : decode cX8_project 94 = .ok (.iconst 0, 1) := by decide +kernel
theorem dX8_project_95 : decode cX8_project 95 = .ok (.istore 5, 2) := by decide +kernel
theorem dX8_project_97 : decode cX8_project 97 = .ok (.iload 5, 2) := by decide +kernel
theorem dX8_project_99 : decode cX8_project 99 = .ok (.aload_n 1, 1) := by decide +kernel
theorem dX8_project_100 : decode cX8_project 100 = .ok (.getfield 86, 3) := by decide +kernel
theorem dX8_project_103 : decode cX8_project 103 = .ok (.if_icmp .ge 26, 3) := by decide +kernel
theorem dX8_project_106 : decode cX8_project 106 = .ok (.aload_n 0, 1) := by decide +kernel
theorem dX8_project_107 : decode cX8_project 107 = .ok (.getfield 18, 3) := by decide +kernel
theorem dX8_project_110 : decode cX8_project 110 = .ok (.iload 5, 2) := by decide +kernel
theorem dX8_project_112 : decode cX8_project 112 = .ok (.dup2, 1) := by decide +kernel
theorem dX8_project_113 : decode cX8_project 113 = .ok (.iaload, 1) := by decide +kernel
theorem dX8_project_114 : decode cX8_project 114 = .ok (.iload 4, 2) := by decide +kernel
theorem dX8_project_116 : decode cX8_project 116 = .ok (.iload 5, 2) := by decide +kernel
theorem dX8_project_118 : decode cX8_project 118 = .ok (.ishr, 1) := by decide +kernel
theorem dX8_project_119 : decode cX8_project 119 = .ok (.iconst 1, 1) := by decide +kernel
theorem dX8_project_120 : decode cX8_project 120 = .ok (.iand, 1) := by decide +kernel
theorem dX8_project_121 : decode cX8_project 121 = .ok (.iadd, 1) := by decide +kernel
theorem dX8_project_122 : decode cX8_project 122 = .ok (.iastore, 1) := by decide +kernel
theorem dX8_project_123 : decode cX8_project 123 = .ok (.iinc 5 1, 3) := by decide +kernel
theorem dX8_project_126 : decode cX8_project 126 = .ok (.goto (-29), 3) := by decide +kernel
theorem dX8_project_129 : decode cX8_project 129 = .ok (.iload 4, 2) := by decide +kernel
theorem dX8_project_131 : decode cX8_project 131 = .ok (.invokestatic 89, 3) := by decide +kernel
theorem dX8_project_134 : decode cX8_project 134 = .ok (.istore 5, 2) := by decide +kernel
theorem dX8_project_136 : decode cX8_project 136 = .ok (.aload_n 0, 1) := by decide +kernel
theorem dX8_project_137 : decode cX8_project 137 = .ok (.dup, 1) := by decide +kernel
theorem dX8_project_138 : decode cX8_project 138 = .ok (.getfield 44, 3) := by decide +kernel
theorem dX8_project_141 : decode cX8_project 141 = .ok (.iload 5, 2) := by decide +kernel
theorem dX8_project_143 : decode cX8_project 143 = .ok (.iadd, 1) := by decide +kernel
theorem dX8_project_144 : decode cX8_project 144 = .ok (.putfield 44, 3) := by decide +kernel
theorem dX8_project_147 : decode cX8_project 147 = .ok (.aload_n 1, 1) := by decide +kernel
theorem dX8_project_148 : decode cX8_project 148 = .ok (.iload 4, 2) := by decide +kernel
theorem dX8_project_150 : decode cX8_project 150 = .ok (.invokevirtual 95, 3) := by decide +kernel
theorem mwX5_isEnough : MwV yX5_isEnough cX5_isEnough 2 (some .boolean) 1 := ⟨⟨kw735, kw7, by decide +kernel⟩, kw733, kw734⟩
theorem dX8_project_153 : decode cX8_project 153 = .ok (.ifCond .eq 13, 3) := by decide +kernel
theorem dX8_project_166 : decode cX8_project 166 = .ok (.iload 5, 2) := by decide +kernel
theorem dX8_project_168 : decode cX8_project 168 = .ok (.ireturn, 1) := by decide +kernel
theorem dX8_project_156 : decode cX8_project 156 = .ok (.aload_n 0, 1) := by decide +kernel
theorem dX8_project_157 : decode cX8_project 157 = .ok (.dup, 1) := by decide +kernel
theorem dX8_project_158 : decode cX8_project 158 = .ok (.getfield 32, 3) := by decide +kernel
theorem dX8_project_161 : decode cX8_project 161 = .ok (.iload_n 2, 1) := by decide +kernel
theorem dX8_project_162 : decode cX8_project 162 = .ok (.ior, 1) := by decide +kernel
theorem dX8_project_163 : decode cX8_project 163 = .ok (.putfield 32, 3) := by decide +kernel
theorem dX8_project_65 : decode cX8_project 65 = .ok (.aload_n 0, 1) := by decide +kernel
theorem dX8_project_66 : decode cX8_project 66 = .ok (.dup, 1) := by decide +kernel
theorem dX8_project_67 : decode cX8_project 67 = .ok (.getfield 35, 3) := by decide +kernel
theorem dX8_project_70 : decode cX8_project 70 = .ok (.iload_n 2, 1) := by decide +kernel
theorem dX8_project_71 : decode cX8_project 71 = .ok (.ior, 1) := by decide +kernel
theorem dX8_project_72 : decode cX8_project 72 = .ok (.putfield 35, 3) := by decide +kernel
theorem dX8_project_75 : decode cX8_project 75 = .ok (.aload_n 0, 1) := by decide +kernel
theorem dX8_project_76 : decode cX8_project 76 = .ok (.iconst 1, 1) := by decide +kernel
theorem dX8_project_77 : decode cX8_project 77 = .ok (.putfield 28, 3) := by decide +kernel
theorem dX8_project_80 : decode cX8_project 80 = .ok (.bipush (-5), 2) := by decide +kernel
theorem dX8_project_82 : decode cX8_project 82 = .ok (.ireturn, 1) := by decide +kernel
set_option maxHeartbeats 4000000 in
set_option maxRecDepth 100000 in
theorem s_X8_project {l : Launch} {G : Gc} (qa : Nat) (qs : Nat) (a1 : Int32) (a2 : Int32) (qa_hour : Int32) (qa_heat : Int32) (qa_black : Int32) (qa_so : Int32) (qa_cracked : Int32) (qa_behind : Int32) (qa_allSighs : Int32) (qa_seed : Int32) (qa_pictures : Nat) (qa_shown : Nat) (qa_sighed : Nat) (qa_shown_c : Nat → Int32) (qa_sighed_c : Nat → Int32) (qs_slides : Int32) (qs_hearers : Int32) (qs_nears : Int32) (qs_lines : Int32) (qs_pass : Int32) (qs_spread : Int32) (qs_lamp : Int32) (qs_behind : Int32) (qs_settingsTold : Int32) (qs_slideNames : Nat) (qs_pictures : Nat) (qs_heats : Nat) (qs_after : Nat) (qs_hearerNames : Nat) (qs_needs : Nat) (qs_likes : Nat) (qs_hates : Nat) (qs_near : Nat) (qs_heats_c : Nat → Int32) (qs_needs_c : Nat → Int32) (qs_likes_c : Nat → Int32) (qs_hates_c : Nat → Int32) (qs_near_c : Nat → Int32) (hi_qa_black : 0 ≤ qa_black.toInt ∧ qa_black.toInt ≤ 1) (hi_qs_slides : 0 ≤ qs_slides.toInt ∧ qs_slides.toInt ≤ 6) (hi_qs_hearers : 0 ≤ qs_hearers.toInt ∧ qs_hearers.toInt ≤ 8) : Ci l yX8_project cX8_project 6 (some .int) 3 0 0 G [.ref qa, .ref qs, .int a1, .int a2] [(qa, .inr (7, [.int qa_hour, .int qa_heat, .int qa_black, .int qa_so, .int qa_cracked, .int qa_behind, .int qa_allSighs, .int qa_seed, .ref qa_pictures, .ref qa_shown, .ref qa_sighed])), (qa_shown, eI G 6 qa_shown_c), (qa_sighed, eI G 8 qa_sighed_c), (qs, .inr (4, [.int qs_slides, .int qs_hearers, .int qs_nears, .int qs_lines, .int qs_pass, .int qs_spread, .int qs_lamp, .int qs_behind, .int qs_settingsTold, .ref qs_slideNames, .ref qs_pictures, .ref qs_heats, .ref qs_after, .ref qs_hearerNames, .ref qs_needs, .ref qs_likes, .ref qs_hates, .ref qs_near])), (qs_heats, eI G 6 qs_heats_c), (qs_needs, eI G 8 qs_needs_c), (qs_likes, eI G 8 qs_likes_c), (qs_hates, eI G 8 qs_hates_c), (qs_near, eI G 8 qs_near_c)] (fun (r9 : Int32) (u9 : va_W) => ∃ (x0_qa_heat : Int32) (x1_qa_black : Int32) (x2_qa_so : Int32) (x3_qa_cracked : Int32) (x4_qa_allSighs : Int32) (x5_qa_shown_c : Nat → Int32) (x6_qa_sighed_c : Nat → Int32) (r_x : Int32), r9 = r_x ∧ u9 = [(qa, .inr (7, [.int qa_hour, .int x0_qa_heat, .int x1_qa_black, .int x2_qa_so, .int x3_qa_cracked, .int qa_behind, .int x4_qa_allSighs, .int qa_seed, .ref qa_pictures, .ref qa_shown, .ref qa_sighed])), (qa_shown, eI G 6 x5_qa_shown_c), (qa_sighed, eI G 8 x6_qa_sighed_c), (qs, .inr (4, [.int qs_slides, .int qs_hearers, .int qs_nears, .int qs_lines, .int qs_pass, .int qs_spread, .int qs_lamp, .int qs_behind, .int qs_settingsTold, .ref qs_slideNames, .ref qs_pictures, .ref qs_heats, .ref qs_after, .ref qs_hearerNames, .ref qs_needs, .ref qs_likes, .ref qs_hates, .ref qs_near])), (qs_heats, eI G 6 qs_heats_c), (qs_needs, eI G 8 qs_needs_c), (qs_likes, eI G 8 qs_likes_c), (qs_hates, eI G 8 qs_hates_c), (qs_near, eI G 8 qs_near_c)] ∧ (0 ≤ x1_qa_black.toInt ∧ x1_qa_black.toInt ≤ 1) ∧ ((-5) ≤ r_x.toInt ∧ r_x.toInt ≤ 63)) := by
  refine Ci.ofQ (by decide) (Nat.le_of_ble_eq_true rfl) ?_
  intro p e s m below meth c ls A args Q hQ B hw hl
  have C : CallFix p m c cX8_project 6 s args gw "LanternState$State" := B.1
  have hl : lv_has ls 6 [(0, .ref qa), (1, .ref qs), (2, .int a1), (3, .int a2)] := hl
  refine lv_iconst (v := 0) C.1 C.2.1 dX8_project_0 (by decide) ?_
  refine lv_istore (lv' := [(4, .int 0), (0, .ref qa), (1, .ref qs), (2, .int a1), (3, .int a2)]) C.1 C.2.1 dX8_project_1 hl (by decide) rfl (fun ls hl => ?_)
  have loopJ102 : ∀ (n9 : Nat) (j99 : Int32) (j100 : Int32) (j101 : Nat → Int32), (2147483647 - j99.toInt).toNat < n9 → (0 ≤ j99.toInt ∧ j99.toInt ≤ 6) → ∀ (H : Heap) (locs : List Loc) (ls : Array Slot), Wd G s A [(qa, .inr (7, [.int qa_hour, .int j100, .int qa_black, .int qa_so, .int qa_cracked, .int qa_behind, .int qa_allSighs, .int qa_seed, .ref qa_pictures, .ref qa_shown, .ref qa_sighed])), (qa_shown, eI G 6 j101), (qa_sighed, eI G 8 qa_sighed_c), (qs, .inr (4, [.int qs_slides, .int qs_hearers, .int qs_nears, .int qs_lines, .int qs_pass, .int qs_spread, .int qs_lamp, .int qs_behind, .int qs_settingsTold, .ref qs_slideNames, .ref qs_pictures, .ref qs_heats, .ref qs_after, .ref qs_hearerNames, .ref qs_needs, .ref qs_likes, .ref qs_hates, .ref qs_near])), (qs_heats, eI G 6 qs_heats_c), (qs_needs, eI G 8 qs_needs_c), (qs_likes, eI G 8 qs_likes_c), (qs_hates, eI G 8 qs_hates_c), (qs_near, eI G 8 qs_near_c)] H locs → lv_has ls 6 [(4, .int j99), (0, .ref qa), (1, .ref qs), (2, .int a1), (3, .int a2)] → W p l e (rmD 3 0 0) s m args below meth c H locs 0 0 Q (F0 m 3 ls []) := by
    intro n9
    induction n9 with
    | zero => intro j99 j100 j101 h9; exact absurd h9 (Nat.not_lt_zero _)
    | succ n9 ihJ102 =>
      intro j99 j100 j101 h9J102 hJ102_0 H locs ls hw hl
      have hbj99 := i_bd j99
      refine lv_iload C.1 C.2.1 dX8_project_3 (lv_at hl 0 rfl) ?_
      refine lv_aload_n C.1 C.2.1 dX8_project_5 rfl (lv_at hl 2 rfl) ?_
      refine x_get C hw iwX5 4 rfl 3 rfl 0 (by decide) kw149 rfl dX8_project_6 ?_
      refine lv_icmp_ge (tgt := 54) C.1 C.2.1 dX8_project_9 (by decide) (fun c120 => ?_) (fun c120 => ?_)
      · skip
        have c120 : qs_slides.toInt ≤ j99.toInt := i_leT (X := qs_slides.toInt) (Y := j99.toInt) rfl rfl c120
        refine lv_aload_n C.1 C.2.1 dX8_project_54 rfl (lv_at hl 1 rfl) ?_
        refine x_get C hw iwX8 7 rfl 0 rfl 1 (by decide) kw240 rfl dX8_project_55 ?_
        refine lv_aload_n C.1 C.2.1 dX8_project_58 rfl (lv_at hl 2 rfl) ?_
        refine x_get C hw iwX5 4 rfl 3 rfl 6 (by decide) kw166 rfl dX8_project_59 ?_
        refine lv_icmp_le (tgt := 83) C.1 C.2.1 dX8_project_62 (by decide) (fun c121 => ?_) (fun c121 => ?_)
        · skip
          have c121 : j100.toInt ≤ qs_lamp.toInt := i_leT (X := j100.toInt) (Y := qs_lamp.toInt) rfl rfl c121
          have bc121_j100 := i_bd j100
          have bc121_qs_lamp := i_bd qs_lamp
          refine lv_aload_n C.1 C.2.1 dX8_project_83 rfl (lv_at hl 2 rfl) ?_
          refine lv_iload_n C.1 C.2.1 dX8_project_84 rfl (lv_at hl 4 rfl) ?_
          refine lv_aload_n C.1 C.2.1 dX8_project_85 rfl (lv_at hl 1 rfl) ?_
          refine x_get C hw iwX8 7 rfl 0 rfl 5 (by decide) kw256 rfl dX8_project_86 ?_
          refine x_calliV (As := [.int a2, .int qa_behind]) (rest := []) (wr := [(qa, .inr (7, [.int qa_hour, .int j100, .int qa_black, .int qa_so, .int qa_cracked, .int qa_behind, .int qa_allSighs, .int qa_seed, .ref qa_pictures, .ref qa_shown, .ref qa_sighed])), (qa_shown, eI G 6 j101), (qa_sighed, eI G 8 qa_sighed_c), (qs_heats, eI G 6 qs_heats_c)]) C hw (s_X5_sighers qs a2 qa_behind qs_slides qs_hearers qs_nears qs_lines qs_pass qs_spread qs_lamp qs_behind qs_settingsTold qs_slideNames qs_pictures qs_heats qs_after qs_hearerNames qs_needs qs_likes qs_hates qs_near qs_needs_c qs_likes_c qs_hates_c qs_near_c (by omega)) mwX5_sighers kw712 [3, 5, 6, 7, 8] [0, 1, 2, 4] rfl rfl rfl rfl (by decide) 0 rfl rfl rfl rfl hl.1 rfl (Nat.le_of_ble_eq_true rfl) ⟨(Nat.le_of_ble_eq_true rfl), (Nat.le_of_ble_eq_true rfl)⟩ ⟨(Nat.le_of_ble_eq_true rfl), (Nat.le_of_ble_eq_true rfl)⟩ dX8_project_89 (fun r122 u9 H locs hp9 hw => ?_)
          obtain ⟨x123, rfl, rfl⟩ := hp9
          have hw : Wd G s A [(qa, .inr (7, [.int qa_hour, .int j100, .int qa_black, .int qa_so, .int qa_cracked, .int qa_behind, .int qa_allSighs, .int qa_seed, .ref qa_pictures, .ref qa_shown, .ref qa_sighed])), (qa_shown, eI G 6 j101), (qa_sighed, eI G 8 qa_sighed_c), (qs_heats, eI G 6 qs_heats_c), (qs, .inr (4, [.int qs_slides, .int qs_hearers, .int qs_nears, .int qs_lines, .int qs_pass, .int qs_spread, .int qs_lamp, .int qs_behind, .int qs_settingsTold, .ref qs_slideNames, .ref qs_pictures, .ref qs_heats, .ref qs_after, .ref qs_hearerNames, .ref qs_needs, .ref qs_likes, .ref qs_hates, .ref qs_near])), (qs_needs, eI G 8 qs_needs_c), (qs_likes, eI G 8 qs_likes_c), (qs_hates, eI G 8 qs_hates_c), (qs_near, eI G 8 qs_near_c)] H _ := hw
          refine lv_istore (lv' := [(4, .int r122), (0, .ref qa), (1, .ref qs), (2, .int a1), (3, .int a2)]) C.1 C.2.1 dX8_project_92 hl (by decide) rfl (fun ls hl => ?_)
          refine lv_iconst (v := 0) C.1 C.2.1 dX8_project_94 (by decide) ?_
          refine lv_istore (lv' := [(5, .int 0), (4, .int r122), (0, .ref qa), (1, .ref qs), (2, .int a1), (3, .int a2)]) C.1 C.2.1 dX8_project_95 hl (by decide) rfl (fun ls hl => ?_)
          have loopJ203 : ∀ (n9 : Nat) (j201 : Int32) (j202 : Nat → Int32), (2147483647 - j201.toInt).toNat < n9 → (0 ≤ j201.toInt ∧ j201.toInt ≤ 8) → ∀ (H : Heap) (locs : List Loc) (ls : Array Slot), Wd G s A [(qa, .inr (7, [.int qa_hour, .int j100, .int qa_black, .int qa_so, .int qa_cracked, .int qa_behind, .int qa_allSighs, .int qa_seed, .ref qa_pictures, .ref qa_shown, .ref qa_sighed])), (qa_shown, eI G 6 j101), (qa_sighed, eI G 8 j202), (qs_heats, eI G 6 qs_heats_c), (qs, .inr (4, [.int qs_slides, .int qs_hearers, .int qs_nears, .int qs_lines, .int qs_pass, .int qs_spread, .int qs_lamp, .int qs_behind, .int qs_settingsTold, .ref qs_slideNames, .ref qs_pictures, .ref qs_heats, .ref qs_after, .ref qs_hearerNames, .ref qs_needs, .ref qs_likes, .ref qs_hates, .ref qs_near])), (qs_needs, eI G 8 qs_needs_c), (qs_likes, eI G 8 qs_likes_c), (qs_hates, eI G 8 qs_hates_c), (qs_near, eI G 8 qs_near_c)] H locs → lv_has ls 6 [(5, .int j201), (4, .int r122), (0, .ref qa), (1, .ref qs), (2, .int a1)] → W p l e (rmD 3 0 0) s m args below meth c H locs 0 0 Q (F0 m 97 ls []) := by
            intro n9
            induction n9 with
            | zero => intro j201 j202 h9; exact absurd h9 (Nat.not_lt_zero _)
            | succ n9 ihJ203 =>
              intro j201 j202 h9J203 hJ203_0 H locs ls hw hl
              have hbj201 := i_bd j201
              refine lv_iload C.1 C.2.1 dX8_project_97 (lv_at hl 0 rfl) ?_
              refine lv_aload_n C.1 C.2.1 dX8_project_99 rfl (lv_at hl 3 rfl) ?_
              refine x_get C hw iwX5 4 rfl 4 rfl 1 (by decide) kw154 rfl dX8_project_100 ?_
              refine lv_icmp_ge (tgt := 129) C.1 C.2.1 dX8_project_103 (by decide) (fun c214 => ?_) (fun c214 => ?_)
              · skip
                have c214 : qs_hearers.toInt ≤ j201.toInt := i_leT (X := qs_hearers.toInt) (Y := j201.toInt) rfl rfl c214
                refine lv_iload C.1 C.2.1 dX8_project_129 (lv_at hl 1 rfl) ?_
                refine x_calliS (As := [.int r122]) (rest := []) (wr := [(qa, .inr (7, [.int qa_hour, .int j100, .int qa_black, .int qa_so, .int qa_cracked, .int qa_behind, .int qa_allSighs, .int qa_seed, .ref qa_pictures, .ref qa_shown, .ref qa_sighed])), (qa_shown, eI G 6 j101), (qa_sighed, eI G 8 j202), (qs_heats, eI G 6 qs_heats_c), (qs, .inr (4, [.int qs_slides, .int qs_hearers, .int qs_nears, .int qs_lines, .int qs_pass, .int qs_spread, .int qs_lamp, .int qs_behind, .int qs_settingsTold, .ref qs_slideNames, .ref qs_pictures, .ref qs_heats, .ref qs_after, .ref qs_hearerNames, .ref qs_needs, .ref qs_likes, .ref qs_hates, .ref qs_near])), (qs_needs, eI G 8 qs_needs_c), (qs_likes, eI G 8 qs_likes_c), (qs_hates, eI G 8 qs_hates_c), (qs_near, eI G 8 qs_near_c)]) C hw (s_J6_bitCount_0f7a4 r122) mwJ6_bitCount_0f7a4 kw731 [] [0, 1, 2, 3, 4, 5, 6, 7, 8] rfl rfl rfl rfl (by decide) rfl hl.1 rfl (Nat.le_of_ble_eq_true rfl) ⟨(Nat.le_of_ble_eq_true rfl), (Nat.le_of_ble_eq_true rfl)⟩ ⟨(Nat.le_of_ble_eq_true rfl), (Nat.le_of_ble_eq_true rfl)⟩ dX8_project_131 (fun r215 u9 H locs hp9 hw => ?_)
                obtain ⟨x216, rfl, rfl, hf217⟩ := hp9
                have hw : Wd G s A [(qa, .inr (7, [.int qa_hour, .int j100, .int qa_black, .int qa_so, .int qa_cracked, .int qa_behind, .int qa_allSighs, .int qa_seed, .ref qa_pictures, .ref qa_shown, .ref qa_sighed])), (qa_shown, eI G 6 j101), (qa_sighed, eI G 8 j202), (qs_heats, eI G 6 qs_heats_c), (qs, .inr (4, [.int qs_slides, .int qs_hearers, .int qs_nears, .int qs_lines, .int qs_pass, .int qs_spread, .int qs_lamp, .int qs_behind, .int qs_settingsTold, .ref qs_slideNames, .ref qs_pictures, .ref qs_heats, .ref qs_after, .ref qs_hearerNames, .ref qs_needs, .ref qs_likes, .ref qs_hates, .ref qs_near])), (qs_needs, eI G 8 qs_needs_c), (qs_likes, eI G 8 qs_likes_c), (qs_hates, eI G 8 qs_hates_c), (qs_near, eI G 8 qs_near_c)] H _ := hw
                refine lv_istore (lv' := [(5, .int r215), (4, .int r122), (0, .ref qa), (1, .ref qs), (2, .int a1)]) C.1 C.2.1 dX8_project_134 hl (by decide) rfl (fun ls hl => ?_)
                refine lv_aload_n C.1 C.2.1 dX8_project_136 rfl (lv_at hl 2 rfl) ?_
                refine lv_dup C.1 C.2.1 dX8_project_137 rfl ?_
                refine x_get C hw iwX8 7 rfl 0 rfl 6 (by decide) kw260 rfl dX8_project_138 ?_
                refine lv_iload C.1 C.2.1 dX8_project_141 (lv_at hl 0 rfl) ?_
                refine lv_iadd C.1 C.2.1 dX8_project_143 (x_gen (fun v218 => ?_))
                refine x_put (w' := [(qa, .inr (7, [.int qa_hour, .int j100, .int qa_black, .int qa_so, .int qa_cracked, .int qa_behind, .int v218, .int qa_seed, .ref qa_pictures, .ref qa_shown, .ref qa_sighed])), (qa_shown, eI G 6 j101), (qa_sighed, eI G 8 j202), (qs_heats, eI G 6 qs_heats_c), (qs, .inr (4, [.int qs_slides, .int qs_hearers, .int qs_nears, .int qs_lines, .int qs_pass, .int qs_spread, .int qs_lamp, .int qs_behind, .int qs_settingsTold, .ref qs_slideNames, .ref qs_pictures, .ref qs_heats, .ref qs_after, .ref qs_hearerNames, .ref qs_needs, .ref qs_likes, .ref qs_hates, .ref qs_near])), (qs_needs, eI G 8 qs_needs_c), (qs_likes, eI G 8 qs_likes_c), (qs_hates, eI G 8 qs_hates_c), (qs_near, eI G 8 qs_near_c)]) C hw iwX8 tyX8_ok nmX8 7 rfl 0 rfl 6 (by decide) kw260 rfl rfl rfl (Nat.le_of_ble_eq_true rfl) rfl dX8_project_144 (fun H locs hw => ?_)
                refine lv_aload_n C.1 C.2.1 dX8_project_147 rfl (lv_at hl 3 rfl) ?_
                refine lv_iload C.1 C.2.1 dX8_project_148 (lv_at hl 1 rfl) ?_
                refine x_calliV (As := [.int r122]) (rest := []) (wr := [(qa, .inr (7, [.int qa_hour, .int j100, .int qa_black, .int qa_so, .int qa_cracked, .int qa_behind, .int v218, .int qa_seed, .ref qa_pictures, .ref qa_shown, .ref qa_sighed])), (qa_shown, eI G 6 j101), (qa_sighed, eI G 8 j202), (qs_heats, eI G 6 qs_heats_c), (qs_needs, eI G 8 qs_needs_c), (qs_likes, eI G 8 qs_likes_c), (qs_hates, eI G 8 qs_hates_c), (qs_near, eI G 8 qs_near_c)]) C hw (s_X5_isEnough qs r122 qs_slides qs_hearers qs_nears qs_lines qs_pass qs_spread qs_lamp qs_behind qs_settingsTold qs_slideNames qs_pictures qs_heats qs_after qs_hearerNames qs_needs qs_likes qs_hates qs_near) mwX5_isEnough kw732 [4] [0, 1, 2, 3, 5, 6, 7, 8] rfl rfl rfl rfl (by decide) 0 rfl rfl rfl rfl hl.1 rfl (Nat.le_of_ble_eq_true rfl) ⟨(Nat.le_of_ble_eq_true rfl), (Nat.le_of_ble_eq_true rfl)⟩ ⟨(Nat.le_of_ble_eq_true rfl), (Nat.le_of_ble_eq_true rfl)⟩ dX8_project_150 (fun r219 u9 H locs hp9 hw => ?_)
                rcases hp9 with ⟨rfl, rfl⟩ | ⟨rfl, rfl⟩
                · skip
                  have hw : Wd G s A [(qa, .inr (7, [.int qa_hour, .int j100, .int qa_black, .int qa_so, .int qa_cracked, .int qa_behind, .int v218, .int qa_seed, .ref qa_pictures, .ref qa_shown, .ref qa_sighed])), (qa_shown, eI G 6 j101), (qa_sighed, eI G 8 j202), (qs_heats, eI G 6 qs_heats_c), (qs_needs, eI G 8 qs_needs_c), (qs_likes, eI G 8 qs_likes_c), (qs_hates, eI G 8 qs_hates_c), (qs_near, eI G 8 qs_near_c), (qs, .inr (4, [.int qs_slides, .int qs_hearers, .int qs_nears, .int qs_lines, .int qs_pass, .int qs_spread, .int qs_lamp, .int qs_behind, .int qs_settingsTold, .ref qs_slideNames, .ref qs_pictures, .ref qs_heats, .ref qs_after, .ref qs_hearerNames, .ref qs_needs, .ref qs_likes, .ref qs_hates, .ref qs_near]))] H _ := hw
                  refine lv_if_eq (tgt := 166) C.1 C.2.1 dX8_project_153 (by decide) (fun _ => ?_) (fun h9 => absurd (by decide) h9)
                  refine lv_iload C.1 C.2.1 dX8_project_166 (lv_at hl 0 rfl) ?_
                  have hw := hw.sub (w' := [(qa, .inr (7, [.int qa_hour, .int j100, .int qa_black, .int qa_so, .int qa_cracked, .int qa_behind, .int v218, .int qa_seed, .ref qa_pictures, .ref qa_shown, .ref qa_sighed])), (qa_shown, eI G 6 j101), (qa_sighed, eI G 8 j202), (qs, .inr (4, [.int qs_slides, .int qs_hearers, .int qs_nears, .int qs_lines, .int qs_pass, .int qs_spread, .int qs_lamp, .int qs_behind, .int qs_settingsTold, .ref qs_slideNames, .ref qs_pictures, .ref qs_heats, .ref qs_after, .ref qs_hearerNames, .ref qs_needs, .ref qs_likes, .ref qs_hates, .ref qs_near])), (qs_heats, eI G 6 qs_heats_c), (qs_needs, eI G 8 qs_needs_c), (qs_likes, eI G 8 qs_likes_c), (qs_hates, eI G 8 qs_hates_c), (qs_near, eI G 8 qs_near_c)]) [0, 1, 2, 8, 3, 4, 5, 6, 7] rfl rfl
                  exact x_retiQ hQ B hw ⟨j100, qa_black, qa_so, qa_cracked, v218, j101, j202, r215, rfl, rfl, (by omega), (by omega)⟩ (Nat.le_of_ble_eq_true rfl) (Nat.le_of_ble_eq_true rfl) dX8_project_168
                · skip
                  have hw : Wd G s A [(qa, .inr (7, [.int qa_hour, .int j100, .int qa_black, .int qa_so, .int qa_cracked, .int qa_behind, .int v218, .int qa_seed, .ref qa_pictures, .ref qa_shown, .ref qa_sighed])), (qa_shown, eI G 6 j101), (qa_sighed, eI G 8 j202), (qs_heats, eI G 6 qs_heats_c), (qs_needs, eI G 8 qs_needs_c), (qs_likes, eI G 8 qs_likes_c), (qs_hates, eI G 8 qs_hates_c), (qs_near, eI G 8 qs_near_c), (qs, .inr (4, [.int qs_slides, .int qs_hearers, .int qs_nears, .int qs_lines, .int qs_pass, .int qs_spread, .int qs_lamp, .int qs_behind, .int qs_settingsTold, .ref qs_slideNames, .ref qs_pictures, .ref qs_heats, .ref qs_after, .ref qs_hearerNames, .ref qs_needs, .ref qs_likes, .ref qs_hates, .ref qs_near]))] H _ := hw
                  refine lv_if_eq (tgt := 166) C.1 C.2.1 dX8_project_153 (by decide) (fun h9 => absurd h9 (by decide)) (fun _ => ?_)
                  refine lv_aload_n C.1 C.2.1 dX8_project_156 rfl (lv_at hl 2 rfl) ?_
                  refine lv_dup C.1 C.2.1 dX8_project_157 rfl ?_
                  refine x_get C hw iwX8 7 rfl 0 rfl 3 (by decide) kw247 rfl dX8_project_158 ?_
                  refine lv_iload_n C.1 C.2.1 dX8_project_161 rfl (lv_at hl 4 rfl) ?_
                  refine lv_ior C.1 C.2.1 dX8_project_162 (x_gen (fun v220 => ?_))
                  refine x_put (w' := [(qa, .inr (7, [.int qa_hour, .int j100, .int qa_black, .int v220, .int qa_cracked, .int qa_behind, .int v218, .int qa_seed, .ref qa_pictures, .ref qa_shown, .ref qa_sighed])), (qa_shown, eI G 6 j101), (qa_sighed, eI G 8 j202), (qs_heats, eI G 6 qs_heats_c), (qs_needs, eI G 8 qs_needs_c), (qs_likes, eI G 8 qs_likes_c), (qs_hates, eI G 8 qs_hates_c), (qs_near, eI G 8 qs_near_c), (qs, .inr (4, [.int qs_slides, .int qs_hearers, .int qs_nears, .int qs_lines, .int qs_pass, .int qs_spread, .int qs_lamp, .int qs_behind, .int qs_settingsTold, .ref qs_slideNames, .ref qs_pictures, .ref qs_heats, .ref qs_after, .ref qs_hearerNames, .ref qs_needs, .ref qs_likes, .ref qs_hates, .ref qs_near]))]) C hw iwX8 tyX8_ok nmX8 7 rfl 0 rfl 3 (by decide) kw247 rfl rfl rfl (Nat.le_of_ble_eq_true rfl) rfl dX8_project_163 (fun H locs hw => ?_)
                  refine lv_iload C.1 C.2.1 dX8_project_166 (lv_at hl 0 rfl) ?_
                  have hw := hw.sub (w' := [(qa, .inr (7, [.int qa_hour, .int j100, .int qa_black, .int v220, .int qa_cracked, .int qa_behind, .int v218, .int qa_seed, .ref qa_pictures, .ref qa_shown, .ref qa_sighed])), (qa_shown, eI G 6 j101), (qa_sighed, eI G 8 j202), (qs, .inr (4, [.int qs_slides, .int qs_hearers, .int qs_nears, .int qs_lines, .int qs_pass, .int qs_spread, .int qs_lamp, .int qs_behind, .int qs_settingsTold, .ref qs_slideNames, .ref qs_pictures, .ref qs_heats, .ref qs_after, .ref qs_hearerNames, .ref qs_needs, .ref qs_likes, .ref qs_hates, .ref qs_near])), (qs_heats, eI G 6 qs_heats_c), (qs_needs, eI G 8 qs_needs_c), (qs_likes, eI G 8 qs_likes_c), (qs_hates, eI G 8 qs_hates_c), (qs_near, eI G 8 qs_near_c)]) [0, 1, 2, 8, 3, 4, 5, 6, 7] rfl rfl
                  exact x_retiQ hQ B hw ⟨j100, qa_black, v220, qa_cracked, v218, j101, j202, r215, rfl, rfl, (by omega), (by omega)⟩ (Nat.le_of_ble_eq_true rfl) (Nat.le_of_ble_eq_true rfl) dX8_project_168
              · skip
                have c214 : j201.toInt < qs_hearers.toInt := i_leF (X := qs_hearers.toInt) (Y := j201.toInt) rfl rfl c214
                refine lv_aload_n C.1 C.2.1 dX8_project_106 rfl (lv_at hl 2 rfl) ?_
                refine x_get C hw iwX8 7 rfl 0 rfl 10 (by decide) kw269 rfl dX8_project_107 ?_
                refine lv_iload C.1 C.2.1 dX8_project_110 (lv_at hl 0 rfl) ?_
                refine lv_dup2_11 C.1 C.2.1 dX8_project_112 rfl rfl ?_
                refine x_iald (v := (j202 j201.toNatClampNeg)) C hw 2 rfl (i_in (by omega) (by omega)) rfl dX8_project_113 (x_gen (fun v221 => ?_))
                refine lv_iload C.1 C.2.1 dX8_project_114 (lv_at hl 1 rfl) ?_
                refine lv_iload C.1 C.2.1 dX8_project_116 (lv_at hl 0 rfl) ?_
                refine lv_ishr C.1 C.2.1 dX8_project_118 (x_gen (fun v222 => ?_))
                refine lv_iconst (v := 1) C.1 C.2.1 dX8_project_119 (by decide) ?_
                refine lv_iand C.1 C.2.1 dX8_project_120 (x_genP (fun z : Int32 => 0 ≤ z.toInt ∧ z.toInt ≤ 1) (i_andR 1 rfl (by decide) rfl) (fun v223 hv223 => ?_))
                refine lv_iadd C.1 C.2.1 dX8_project_121 (x_gen (fun v224 => ?_))
                obtain ⟨g225, eg225⟩ : ∃ z, upd j202 (j201.toNatClampNeg) v224 = z := ⟨_, rfl⟩
                refine x_iast (f' := g225) (w' := [(qa, .inr (7, [.int qa_hour, .int j100, .int qa_black, .int qa_so, .int qa_cracked, .int qa_behind, .int qa_allSighs, .int qa_seed, .ref qa_pictures, .ref qa_shown, .ref qa_sighed])), (qa_shown, eI G 6 j101), (qa_sighed, eI G 8 g225), (qs_heats, eI G 6 qs_heats_c), (qs, .inr (4, [.int qs_slides, .int qs_hearers, .int qs_nears, .int qs_lines, .int qs_pass, .int qs_spread, .int qs_lamp, .int qs_behind, .int qs_settingsTold, .ref qs_slideNames, .ref qs_pictures, .ref qs_heats, .ref qs_after, .ref qs_hearerNames, .ref qs_needs, .ref qs_likes, .ref qs_hates, .ref qs_near])), (qs_needs, eI G 8 qs_needs_c), (qs_likes, eI G 8 qs_likes_c), (qs_hates, eI G 8 qs_hates_c), (qs_near, eI G 8 qs_near_c)]) C hw 2 rfl (i_in (by omega) (by omega)) eg225 rfl dX8_project_122 (fun H locs hw => ?_)
                obtain ⟨v226, ev226⟩ : ∃ z : Int32, j201 + 1 = z := ⟨_, rfl⟩
                have hv226 : v226.toInt = j201.toInt + 1 := by rw [← ev226]; exact i_add rfl rfl (by omega) (by omega)
                refine lv_iinc (v := v226) (lv' := [(5, .int v226), (4, .int r122), (0, .ref qa), (1, .ref qs), (2, .int a1)]) C.1 C.2.1 dX8_project_123 hl (k := 0) rfl ev226 (by decide) rfl (fun ls hl => ?_)
                refine lv_goto (tgt := 97) C.1 C.2.1 dX8_project_126 (by decide) ?_
                exact ihJ203 v226 g225 (by omega) (by omega) _ _ _ hw (lv_sub hl [0, 1, 2, 3, 4] rfl)
          exact loopJ203 _ 0 qa_sighed_c (Nat.lt_succ_self _) (by decide) _ _ _ hw (lv_sub hl [0, 1, 2, 3, 4] rfl)
        · skip
          have c121 : qs_lamp.toInt < j100.toInt := i_leF (X := j100.toInt) (Y := qs_lamp.toInt) rfl rfl c121
          have bc121_j100 := i_bd j100
          have bc121_qs_lamp := i_bd qs_lamp
          refine lv_aload_n C.1 C.2.1 dX8_project_65 rfl (lv_at hl 1 rfl) ?_
          refine lv_dup C.1 C.2.1 dX8_project_66 rfl ?_
          refine x_get C hw iwX8 7 rfl 0 rfl 4 (by decide) kw251 rfl dX8_project_67 ?_
          refine lv_iload_n C.1 C.2.1 dX8_project_70 rfl (lv_at hl 3 rfl) ?_
          refine lv_ior C.1 C.2.1 dX8_project_71 (x_gen (fun v227 => ?_))
          refine x_put (w' := [(qa, .inr (7, [.int qa_hour, .int j100, .int qa_black, .int qa_so, .int v227, .int qa_behind, .int qa_allSighs, .int qa_seed, .ref qa_pictures, .ref qa_shown, .ref qa_sighed])), (qa_shown, eI G 6 j101), (qa_sighed, eI G 8 qa_sighed_c), (qs, .inr (4, [.int qs_slides, .int qs_hearers, .int qs_nears, .int qs_lines, .int qs_pass, .int qs_spread, .int qs_lamp, .int qs_behind, .int qs_settingsTold, .ref qs_slideNames, .ref qs_pictures, .ref qs_heats, .ref qs_after, .ref qs_hearerNames, .ref qs_needs, .ref qs_likes, .ref qs_hates, .ref qs_near])), (qs_heats, eI G 6 qs_heats_c), (qs_needs, eI G 8 qs_needs_c), (qs_likes, eI G 8 qs_likes_c), (qs_hates, eI G 8 qs_hates_c), (qs_near, eI G 8 qs_near_c)]) C hw iwX8 tyX8_ok nmX8 7 rfl 0 rfl 4 (by decide) kw251 rfl rfl rfl (Nat.le_of_ble_eq_true rfl) rfl dX8_project_72 (fun H locs hw => ?_)
          refine lv_aload_n C.1 C.2.1 dX8_project_75 rfl (lv_at hl 1 rfl) ?_
          refine lv_iconst (v := 1) C.1 C.2.1 dX8_project_76 (by decide) ?_
          refine x_put (w' := [(qa, .inr (7, [.int qa_hour, .int j100, .int 1, .int qa_so, .int v227, .int qa_behind, .int qa_allSighs, .int qa_seed, .ref qa_pictures, .ref qa_shown, .ref qa_sighed])), (qa_shown, eI G 6 j101), (qa_sighed, eI G 8 qa_sighed_c), (qs, .inr (4, [.int qs_slides, .int qs_hearers, .int qs_nears, .int qs_lines, .int qs_pass, .int qs_spread, .int qs_lamp, .int qs_behind, .int qs_settingsTold, .ref qs_slideNames, .ref qs_pictures, .ref qs_heats, .ref qs_after, .ref qs_hearerNames, .ref qs_needs, .ref qs_likes, .ref qs_hates, .ref qs_near])), (qs_heats, eI G 6 qs_heats_c), (qs_needs, eI G 8 qs_needs_c), (qs_likes, eI G 8 qs_likes_c), (qs_hates, eI G 8 qs_hates_c), (qs_near, eI G 8 qs_near_c)]) C hw iwX8 tyX8_ok nmX8 7 rfl 0 rfl 2 (by decide) kw243 rfl (by first | rfl | decide) rfl (Nat.le_of_ble_eq_true rfl) rfl dX8_project_77 (fun H locs hw => ?_)
          refine lv_bipush (v := (-5)) C.1 C.2.1 dX8_project_80 (by decide) ?_
          exact x_retiQ hQ B hw ⟨j100, 1, qa_so, v227, qa_allSighs, j101, qa_sighed_c, (-5), rfl, rfl, (by decide), (by decide)⟩ (Nat.le_of_ble_eq_true rfl) (Nat.le_of_ble_eq_true rfl) dX8_project_82
      · skip
        have c120 : j99.toInt < qs_slides.toInt := i_leF (X := qs_slides.toInt) (Y := j99.toInt) rfl rfl c120
        refine lv_iload_n C.1 C.2.1 dX8_project_12 rfl (lv_at hl 3 rfl) ?_
        refine lv_iload C.1 C.2.1 dX8_project_13 (lv_at hl 0 rfl) ?_
        refine lv_ishr C.1 C.2.1 dX8_project_15 (x_gen (fun v228 => ?_))
        refine lv_iconst (v := 1) C.1 C.2.1 dX8_project_16 (by decide) ?_
        refine lv_iand C.1 C.2.1 dX8_project_17 (x_genP (fun z : Int32 => 0 ≤ z.toInt ∧ z.toInt ≤ 1) (i_andR 1 rfl (by decide) rfl) (fun v229 hv229 => ?_))
        have J238 : ∀ (j236 : Int32) (j237 : Nat → Int32), ∀ (H : Heap) (locs : List Loc) (ls : Array Slot), Wd G s A [(qa, .inr (7, [.int qa_hour, .int j236, .int qa_black, .int qa_so, .int qa_cracked, .int qa_behind, .int qa_allSighs, .int qa_seed, .ref qa_pictures, .ref qa_shown, .ref qa_sighed])), (qa_shown, eI G 6 j237), (qa_sighed, eI G 8 qa_sighed_c), (qs, .inr (4, [.int qs_slides, .int qs_hearers, .int qs_nears, .int qs_lines, .int qs_pass, .int qs_spread, .int qs_lamp, .int qs_behind, .int qs_settingsTold, .ref qs_slideNames, .ref qs_pictures, .ref qs_heats, .ref qs_after, .ref qs_hearerNames, .ref qs_needs, .ref qs_likes, .ref qs_hates, .ref qs_near])), (qs_heats, eI G 6 qs_heats_c), (qs_needs, eI G 8 qs_needs_c), (qs_likes, eI G 8 qs_likes_c), (qs_hates, eI G 8 qs_hates_c), (qs_near, eI G 8 qs_near_c)] H locs → lv_has ls 6 [(4, .int j99), (0, .ref qa), (1, .ref qs), (2, .int a1), (3, .int a2)] → W p l e (rmD 3 0 0) s m args below meth c H locs 0 0 Q (F0 m 48 ls []) := by
          intro j236 j237  H locs ls hw hl
          obtain ⟨v240, ev240⟩ : ∃ z : Int32, j99 + 1 = z := ⟨_, rfl⟩
          have hv240 : v240.toInt = j99.toInt + 1 := by rw [← ev240]; exact i_add rfl rfl (by omega) (by omega)
          refine lv_iinc (v := v240) (lv' := [(4, .int v240), (0, .ref qa), (1, .ref qs), (2, .int a1), (3, .int a2)]) C.1 C.2.1 dX8_project_48 hl (k := 0) rfl ev240 (by decide) rfl (fun ls hl => ?_)
          refine lv_goto (tgt := 3) C.1 C.2.1 dX8_project_51 (by decide) ?_
          exact ihJ102 v240 j236 j237 (by omega) (by omega) _ _ _ hw (lv_sub hl [0, 1, 2, 3, 4] rfl)
        refine lv_if_eq (tgt := 48) C.1 C.2.1 dX8_project_18 (by decide) (fun c230 => ?_) (fun c230 => ?_)
        · skip
          have c230 : v229.toInt = 0 := i_eqT (X := v229.toInt) (Y := 0) rfl rfl c230
          exact J238 j100 j101   _ _ _ hw (lv_sub hl [0, 1, 2, 3, 4] rfl)
        · skip
          have c230 : v229.toInt ≠ 0 := i_eqF (X := v229.toInt) (Y := 0) rfl rfl c230
          refine lv_aload_n C.1 C.2.1 dX8_project_21 rfl (lv_at hl 1 rfl) ?_
          refine lv_dup C.1 C.2.1 dX8_project_22 rfl ?_
          refine x_get C hw iwX8 7 rfl 0 rfl 1 (by decide) kw240 rfl dX8_project_23 ?_
          refine lv_aload_n C.1 C.2.1 dX8_project_26 rfl (lv_at hl 2 rfl) ?_
          refine x_get C hw iwX5 4 rfl 3 rfl 11 (by decide) kw178 rfl dX8_project_27 ?_
          refine lv_iload C.1 C.2.1 dX8_project_30 (lv_at hl 0 rfl) ?_
          refine x_iald (v := (qs_heats_c j99.toNatClampNeg)) C hw 4 rfl (i_in (by omega) (by omega)) rfl dX8_project_32 (x_gen (fun v241 => ?_))
          refine lv_iadd C.1 C.2.1 dX8_project_33 (x_gen (fun v242 => ?_))
          refine x_put (w' := [(qa, .inr (7, [.int qa_hour, .int v242, .int qa_black, .int qa_so, .int qa_cracked, .int qa_behind, .int qa_allSighs, .int qa_seed, .ref qa_pictures, .ref qa_shown, .ref qa_sighed])), (qa_shown, eI G 6 j101), (qa_sighed, eI G 8 qa_sighed_c), (qs, .inr (4, [.int qs_slides, .int qs_hearers, .int qs_nears, .int qs_lines, .int qs_pass, .int qs_spread, .int qs_lamp, .int qs_behind, .int qs_settingsTold, .ref qs_slideNames, .ref qs_pictures, .ref qs_heats, .ref qs_after, .ref qs_hearerNames, .ref qs_needs, .ref qs_likes, .ref qs_hates, .ref qs_near])), (qs_heats, eI G 6 qs_heats_c), (qs_needs, eI G 8 qs_needs_c), (qs_likes, eI G 8 qs_likes_c), (qs_hates, eI G 8 qs_hates_c), (qs_near, eI G 8 qs_near_c)]) C hw iwX8 tyX8_ok nmX8 7 rfl 0 rfl 1 (by decide) kw240 rfl rfl rfl (Nat.le_of_ble_eq_true rfl) rfl dX8_project_34 (fun H locs hw => ?_)
          refine lv_aload_n C.1 C.2.1 dX8_project_37 rfl (lv_at hl 1 rfl) ?_
          refine x_get C hw iwX8 7 rfl 0 rfl 9 (by decide) kw267 rfl dX8_project_38 ?_
          refine lv_iload C.1 C.2.1 dX8_project_41 (lv_at hl 0 rfl) ?_
          refine lv_dup2_11 C.1 C.2.1 dX8_project_43 rfl rfl ?_
          refine x_iald (v := (j101 j99.toNatClampNeg)) C hw 1 rfl (i_in (by omega) (by omega)) rfl dX8_project_44 (x_gen (fun v243 => ?_))
          refine lv_iconst (v := 1) C.1 C.2.1 dX8_project_45 (by decide) ?_
          refine lv_iadd C.1 C.2.1 dX8_project_46 (x_gen (fun v244 => ?_))
          obtain ⟨g245, eg245⟩ : ∃ z, upd j101 (j99.toNatClampNeg) v244 = z := ⟨_, rfl⟩
          refine x_iast (f' := g245) (w' := [(qa, .inr (7, [.int qa_hour, .int v242, .int qa_black, .int qa_so, .int qa_cracked, .int qa_behind, .int qa_allSighs, .int qa_seed, .ref qa_pictures, .ref qa_shown, .ref qa_sighed])), (qa_shown, eI G 6 g245), (qa_sighed, eI G 8 qa_sighed_c), (qs, .inr (4, [.int qs_slides, .int qs_hearers, .int qs_nears, .int qs_lines, .int qs_pass, .int qs_spread, .int qs_lamp, .int qs_behind, .int qs_settingsTold, .ref qs_slideNames, .ref qs_pictures, .ref qs_heats, .ref qs_after, .ref qs_hearerNames, .ref qs_needs, .ref qs_likes, .ref qs_hates, .ref qs_near])), (qs_heats, eI G 6 qs_heats_c), (qs_needs, eI G 8 qs_needs_c), (qs_likes, eI G 8 qs_likes_c), (qs_hates, eI G 8 qs_hates_c), (qs_near, eI G 8 qs_near_c)]) C hw 1 rfl (i_in (by omega) (by omega)) eg245 rfl dX8_project_47 (fun H locs hw => ?_)
          exact J238 v242 g245   _ _ _ hw (lv_sub hl [0, 1, 2, 3, 4] rfl)
  exact loopJ102 _ 0 qa_heat qa_shown_c (Nat.lt_succ_self _) (by decide) _ _ _ hw (lv_sub hl [0, 1, 2, 3, 4] rfl)
theorem dX8_showOne_0 : decode cX8_showOne 0 = .ok (.aload_n 0, 1) := by decide +kernel
theorem dX8_showOne_1 : decode cX8_showOne 1 = .ok (.aload_n 1, 1) := by decide +kernel
theorem dX8_showOne_2 : decode cX8_showOne 2 = .ok (.iconst 1, 1) := by decide +kernel
theorem dX8_showOne_3 : decode cX8_showOne 3 = .ok (.iload_n 2, 1) := by decide +kernel
theorem dX8_showOne_4 : decode cX8_showOne 4 = .ok (.ishl, 1) := by decide +kernel
theorem dX8_showOne_5 : decode cX8_showOne 5 = .ok (.invokevirtual 54, 3) := by decide +kernel
theorem mwX8_whyNotShow : MwV yX8_whyNotShow cX8_whyNotShow 4 (some .int) 2 := ⟨⟨kw702, kw8, by decide +kernel⟩, kw701, kS15⟩
theorem dX8_showOne_8 : decode cX8_showOne 8 = .ok (.istore 4, 2) := by decide +kernel
theorem dX8_showOne_10 : decode cX8_showOne 10 = .ok (.iload 4, 2) := by decide +kernel
theorem dX8_showOne_12 : decode cX8_showOne 12 = .ok (.ifCond .eq 10, 3) := by decide +kernel
theorem dX8_showOne_22 : decode cX8_showOne 22 = .ok (.aload_n 0, 1) := by decide +kernel
theorem dX8_showOne_23 : decode cX8_showOne 23 = .ok (.aload_n 1, 1) := by decide +kernel
theorem dX8_showOne_24 : decode cX8_showOne 24 = .ok (.iconst 1, 1) := by decide +kernel
theorem dX8_showOne_25 : decode cX8_showOne 25 = .ok (.iload_n 2, 1) := by decide +kernel
theorem dX8_showOne_26 : decode cX8_showOne 26 = .ok (.ishl, 1) := by decide +kernel
theorem dX8_showOne_27 : decode cX8_showOne 27 = .ok (.aload_n 0, 1) := by decide +kernel
theorem dX8_showOne_28 : decode cX8_showOne 28 = .ok (.getfield 9, 3) := by decide +kernel
theorem dX8_showOne_31 : decode cX8_showOne 31 = .ok (.iload_n 2, 1) := by decide +kernel
theorem dX8_showOne_32 : decode cX8_showOne 32 = .ok (.iaload, 1) := by decide +kernel
theorem dX8_showOne_33 : decode cX8_showOne 33 = .ok (.iload_n 3, 1) := by decide +kernel
theorem dX8_showOne_34 : decode cX8_showOne 34 = .ok (.invokestatic 58, 3) := by decide +kernel
theorem dX8_showOne_37 : decode cX8_showOne 37 = .ok (.invokevirtual 64, 3) := by decide +kernel
theorem mwX8_project : MwV yX8_project cX8_project 6 (some .int) 3 := ⟨⟨kw711, kw8, by decide +kernel⟩, kw710, kS16⟩
theorem dX8_showOne_40 : decode cX8_showOne 40 = .ok (.ireturn, 1) := by decide +kernel
theorem dX8_showOne_15 : decode cX8_showOne 15 = .ok (.iconst (-1), 1) := by decide +kernel
theorem dX8_showOne_16 : decode cX8_showOne 16 = .ok (.iload 4, 2) := by decide +kernel
theorem dX8_showOne_18 : decode cX8_showOne 18 = .ok (.isub, 1) := by decide +kernel
theorem dX8_showOne_19 : decode cX8_showOne 19 = .ok (.goto 21, 3) := by decide +kernel
set_option maxHeartbeats 4000000 in
set_option maxRecDepth 100000 in
theorem s_X8_showOne {l : Launch} {G : Gc} (qa : Nat) (qs : Nat) (a1 : Int32) (a2 : Int32) (qa_hour : Int32) (qa_heat : Int32) (qa_black : Int32) (qa_so : Int32) (qa_cracked : Int32) (qa_behind : Int32) (qa_allSighs : Int32) (qa_seed : Int32) (qa_pictures : Nat) (qa_shown : Nat) (qa_sighed : Nat) (qa_pictures_c : Nat → Int32) (qa_shown_c : Nat → Int32) (qa_sighed_c : Nat → Int32) (qs_slides : Int32) (qs_hearers : Int32) (qs_nears : Int32) (qs_lines : Int32) (qs_pass : Int32) (qs_spread : Int32) (qs_lamp : Int32) (qs_behind : Int32) (qs_settingsTold : Int32) (qs_slideNames : Nat) (qs_pictures : Nat) (qs_heats : Nat) (qs_after : Nat) (qs_hearerNames : Nat) (qs_needs : Nat) (qs_likes : Nat) (qs_hates : Nat) (qs_near : Nat) (qs_heats_c : Nat → Int32) (qs_after_c : Nat → Int32) (qs_needs_c : Nat → Int32) (qs_likes_c : Nat → Int32) (qs_hates_c : Nat → Int32) (qs_near_c : Nat → Int32) (hi_a1 : 0 ≤ a1.toInt ∧ a1.toInt ≤ 5) (hi_qa_black : 0 ≤ qa_black.toInt ∧ qa_black.toInt ≤ 1) (hi_qs_slides : 0 ≤ qs_slides.toInt ∧ qs_slides.toInt ≤ 6) (hi_qs_hearers : 0 ≤ qs_hearers.toInt ∧ qs_hearers.toInt ≤ 8) (hf_qs_after_c : inA 6 (-1) 5 qs_after_c) : Ci l yX8_showOne cX8_showOne 5 (some .int) 4 0 0 G [.ref qa, .ref qs, .int a1, .int a2] [(qa, .inr (7, [.int qa_hour, .int qa_heat, .int qa_black, .int qa_so, .int qa_cracked, .int qa_behind, .int qa_allSighs, .int qa_seed, .ref qa_pictures, .ref qa_shown, .ref qa_sighed])), (qa_pictures, eI G 6 qa_pictures_c), (qa_shown, eI G 6 qa_shown_c), (qa_sighed, eI G 8 qa_sighed_c), (qs, .inr (4, [.int qs_slides, .int qs_hearers, .int qs_nears, .int qs_lines, .int qs_pass, .int qs_spread, .int qs_lamp, .int qs_behind, .int qs_settingsTold, .ref qs_slideNames, .ref qs_pictures, .ref qs_heats, .ref qs_after, .ref qs_hearerNames, .ref qs_needs, .ref qs_likes, .ref qs_hates, .ref qs_near])), (qs_heats, eI G 6 qs_heats_c), (qs_after, eI G 6 qs_after_c), (qs_needs, eI G 8 qs_needs_c), (qs_likes, eI G 8 qs_likes_c), (qs_hates, eI G 8 qs_hates_c), (qs_near, eI G 8 qs_near_c)] (fun (r9 : Int32) (u9 : va_W) => ∃ (x0_qa_heat : Int32) (x1_qa_black : Int32) (x2_qa_so : Int32) (x3_qa_cracked : Int32) (x4_qa_allSighs : Int32) (x5_qa_shown_c : Nat → Int32) (x6_qa_sighed_c : Nat → Int32) (r_x : Int32), r9 = r_x ∧ u9 = [(qa, .inr (7, [.int qa_hour, .int x0_qa_heat, .int x1_qa_black, .int x2_qa_so, .int x3_qa_cracked, .int qa_behind, .int x4_qa_allSighs, .int qa_seed, .ref qa_pictures, .ref qa_shown, .ref qa_sighed])), (qa_pictures, eI G 6 qa_pictures_c), (qa_shown, eI G 6 x5_qa_shown_c), (qa_sighed, eI G 8 x6_qa_sighed_c), (qs, .inr (4, [.int qs_slides, .int qs_hearers, .int qs_nears, .int qs_lines, .int qs_pass, .int qs_spread, .int qs_lamp, .int qs_behind, .int qs_settingsTold, .ref qs_slideNames, .ref qs_pictures, .ref qs_heats, .ref qs_after, .ref qs_hearerNames, .ref qs_needs, .ref qs_likes, .ref qs_hates, .ref qs_near])), (qs_heats, eI G 6 qs_heats_c), (qs_after, eI G 6 qs_after_c), (qs_needs, eI G 8 qs_needs_c), (qs_likes, eI G 8 qs_likes_c), (qs_hates, eI G 8 qs_hates_c), (qs_near, eI G 8 qs_near_c)] ∧ (0 ≤ x1_qa_black.toInt ∧ x1_qa_black.toInt ≤ 1) ∧ ((-5) ≤ r_x.toInt ∧ r_x.toInt ≤ 63)) := by
  refine Ci.ofQ (by decide) (Nat.le_of_ble_eq_true rfl) ?_
  intro p e s m below meth c ls A args Q hQ B hw hl
  have C : CallFix p m c cX8_showOne 5 s args gw "LanternState$State" := B.1
  have hl : lv_has ls 5 [(0, .ref qa), (1, .ref qs), (2, .int a1), (3, .int a2)] := hl
  refine lv_aload_n C.1 C.2.1 dX8_showOne_0 rfl (lv_at hl 0 rfl) ?_
  refine lv_aload_n C.1 C.2.1 dX8_showOne_1 rfl (lv_at hl 1 rfl) ?_
  refine lv_iconst (v := 1) C.1 C.2.1 dX8_showOne_2 (by decide) ?_
  refine lv_iload_n C.1 C.2.1 dX8_showOne_3 rfl (lv_at hl 2 rfl) ?_
  refine lv_ishl C.1 C.2.1 dX8_showOne_4 (x_genP (fun z : Int32 => 1 ≤ z.toInt ∧ z.toInt ≤ 256) (i_shl1 (by omega) (by omega)) (fun v1 hv1 => ?_))
  refine x_calliV (As := [.ref qs, .int v1]) (rest := []) (wr := [(qa_pictures, eI G 6 qa_pictures_c), (qa_shown, eI G 6 qa_shown_c), (qa_sighed, eI G 8 qa_sighed_c), (qs_heats, eI G 6 qs_heats_c), (qs_needs, eI G 8 qs_needs_c), (qs_likes, eI G 8 qs_likes_c), (qs_hates, eI G 8 qs_hates_c), (qs_near, eI G 8 qs_near_c)]) C hw (s_X8_whyNotShow qa qs v1 qa_hour qa_heat qa_black qa_so qa_cracked qa_behind qa_allSighs qa_seed qa_pictures qa_shown qa_sighed qs_slides qs_hearers qs_nears qs_lines qs_pass qs_spread qs_lamp qs_behind qs_settingsTold qs_slideNames qs_pictures qs_heats qs_after qs_hearerNames qs_needs qs_likes qs_hates qs_near qs_after_c (by omega) (by omega) hf_qs_after_c) mwX8_whyNotShow kw699 [0, 4, 6] [1, 2, 3, 5, 7, 8, 9, 10] rfl rfl rfl rfl (by decide) 0 rfl rfl rfl rfl hl.1 rfl (Nat.le_of_ble_eq_true rfl) ⟨(Nat.le_of_ble_eq_true rfl), (Nat.le_of_ble_eq_true rfl)⟩ ⟨(Nat.le_of_ble_eq_true rfl), (Nat.le_of_ble_eq_true rfl)⟩ dX8_showOne_5 (fun r2 u9 H locs hp9 hw => ?_)
  obtain ⟨x3, rfl, rfl, hf4⟩ := hp9
  have hw : Wd G s A [(qa_pictures, eI G 6 qa_pictures_c), (qa_shown, eI G 6 qa_shown_c), (qa_sighed, eI G 8 qa_sighed_c), (qs_heats, eI G 6 qs_heats_c), (qs_needs, eI G 8 qs_needs_c), (qs_likes, eI G 8 qs_likes_c), (qs_hates, eI G 8 qs_hates_c), (qs_near, eI G 8 qs_near_c), (qa, .inr (7, [.int qa_hour, .int qa_heat, .int qa_black, .int qa_so, .int qa_cracked, .int qa_behind, .int qa_allSighs, .int qa_seed, .ref qa_pictures, .ref qa_shown, .ref qa_sighed])), (qs, .inr (4, [.int qs_slides, .int qs_hearers, .int qs_nears, .int qs_lines, .int qs_pass, .int qs_spread, .int qs_lamp, .int qs_behind, .int qs_settingsTold, .ref qs_slideNames, .ref qs_pictures, .ref qs_heats, .ref qs_after, .ref qs_hearerNames, .ref qs_needs, .ref qs_likes, .ref qs_hates, .ref qs_near])), (qs_after, eI G 6 qs_after_c)] H _ := hw
  refine lv_istore (lv' := [(4, .int r2), (0, .ref qa), (1, .ref qs), (2, .int a1), (3, .int a2)]) C.1 C.2.1 dX8_showOne_8 hl (by decide) rfl (fun ls hl => ?_)
  refine lv_iload C.1 C.2.1 dX8_showOne_10 (lv_at hl 0 rfl) ?_
  refine lv_if_eq (tgt := 22) C.1 C.2.1 dX8_showOne_12 (by decide) (fun c5 => ?_) (fun c5 => ?_)
  · skip
    have c5 : r2.toInt = 0 := i_eqT (X := r2.toInt) (Y := 0) rfl rfl c5
    refine lv_aload_n C.1 C.2.1 dX8_showOne_22 rfl (lv_at hl 1 rfl) ?_
    refine lv_aload_n C.1 C.2.1 dX8_showOne_23 rfl (lv_at hl 2 rfl) ?_
    refine lv_iconst (v := 1) C.1 C.2.1 dX8_showOne_24 (by decide) ?_
    refine lv_iload_n C.1 C.2.1 dX8_showOne_25 rfl (lv_at hl 3 rfl) ?_
    refine lv_ishl C.1 C.2.1 dX8_showOne_26 (x_genP (fun z : Int32 => 1 ≤ z.toInt ∧ z.toInt ≤ 256) (i_shl1 (by omega) (by omega)) (fun v6 hv6 => ?_))
    refine lv_aload_n C.1 C.2.1 dX8_showOne_27 rfl (lv_at hl 1 rfl) ?_
    refine x_get C hw iwX8 7 rfl 8 rfl 8 (by decide) kw263 rfl dX8_showOne_28 ?_
    refine lv_iload_n C.1 C.2.1 dX8_showOne_31 rfl (lv_at hl 3 rfl) ?_
    refine x_iald (v := (qa_pictures_c a1.toNatClampNeg)) C hw 0 rfl (i_in (by omega) (by omega)) rfl dX8_showOne_32 (x_gen (fun v7 => ?_))
    refine lv_iload_n C.1 C.2.1 dX8_showOne_33 rfl (lv_at hl 4 rfl) ?_
    refine x_calliS (As := [.int v7, .int a2]) (rest := [.int v6, .ref qs, .ref qa]) (wr := [(qa_pictures, eI G 6 qa_pictures_c), (qa_shown, eI G 6 qa_shown_c), (qa_sighed, eI G 8 qa_sighed_c), (qs_heats, eI G 6 qs_heats_c), (qs_needs, eI G 8 qs_needs_c), (qs_likes, eI G 8 qs_likes_c), (qs_hates, eI G 8 qs_hates_c), (qs_near, eI G 8 qs_near_c), (qa, .inr (7, [.int qa_hour, .int qa_heat, .int qa_black, .int qa_so, .int qa_cracked, .int qa_behind, .int qa_allSighs, .int qa_seed, .ref qa_pictures, .ref qa_shown, .ref qa_sighed])), (qs, .inr (4, [.int qs_slides, .int qs_hearers, .int qs_nears, .int qs_lines, .int qs_pass, .int qs_spread, .int qs_lamp, .int qs_behind, .int qs_settingsTold, .ref qs_slideNames, .ref qs_pictures, .ref qs_heats, .ref qs_after, .ref qs_hearerNames, .ref qs_needs, .ref qs_likes, .ref qs_hates, .ref qs_near])), (qs_after, eI G 6 qs_after_c)]) C hw (s_X4_turn v7 a2) mwX4_turn kw707 [] [0, 1, 2, 3, 4, 5, 6, 7, 8, 9, 10] rfl rfl rfl rfl (by decide) rfl hl.1 rfl (Nat.le_of_ble_eq_true rfl) ⟨(Nat.le_of_ble_eq_true rfl), (Nat.le_of_ble_eq_true rfl)⟩ ⟨(Nat.le_of_ble_eq_true rfl), (Nat.le_of_ble_eq_true rfl)⟩ dX8_showOne_34 (fun r8 u9 H locs hp9 hw => ?_)
    obtain ⟨x9, rfl, rfl⟩ := hp9
    have hw : Wd G s A [(qa_pictures, eI G 6 qa_pictures_c), (qa_shown, eI G 6 qa_shown_c), (qa_sighed, eI G 8 qa_sighed_c), (qs_heats, eI G 6 qs_heats_c), (qs_needs, eI G 8 qs_needs_c), (qs_likes, eI G 8 qs_likes_c), (qs_hates, eI G 8 qs_hates_c), (qs_near, eI G 8 qs_near_c), (qa, .inr (7, [.int qa_hour, .int qa_heat, .int qa_black, .int qa_so, .int qa_cracked, .int qa_behind, .int qa_allSighs, .int qa_seed, .ref qa_pictures, .ref qa_shown, .ref qa_sighed])), (qs, .inr (4, [.int qs_slides, .int qs_hearers, .int qs_nears, .int qs_lines, .int qs_pass, .int qs_spread, .int qs_lamp, .int qs_behind, .int qs_settingsTold, .ref qs_slideNames, .ref qs_pictures, .ref qs_heats, .ref qs_after, .ref qs_hearerNames, .ref qs_needs, .ref qs_likes, .ref qs_hates, .ref qs_near])), (qs_after, eI G 6 qs_after_c)] H _ := hw
    refine x_calliV (As := [.ref qs, .int v6, .int r8]) (rest := []) (wr := [(qa_pictures, eI G 6 qa_pictures_c), (qs_after, eI G 6 qs_after_c)]) C hw (s_X8_project qa qs v6 r8 qa_hour qa_heat qa_black qa_so qa_cracked qa_behind qa_allSighs qa_seed qa_pictures qa_shown qa_sighed qa_shown_c qa_sighed_c qs_slides qs_hearers qs_nears qs_lines qs_pass qs_spread qs_lamp qs_behind qs_settingsTold qs_slideNames qs_pictures qs_heats qs_after qs_hearerNames qs_needs qs_likes qs_hates qs_near qs_heats_c qs_needs_c qs_likes_c qs_hates_c qs_near_c (by omega) (by omega) (by omega)) mwX8_project kw708 [8, 1, 2, 9, 3, 4, 5, 6, 7] [0, 10] rfl rfl rfl rfl (by decide) 0 rfl rfl rfl rfl hl.1 rfl (Nat.le_of_ble_eq_true rfl) ⟨(Nat.le_of_ble_eq_true rfl), (Nat.le_of_ble_eq_true rfl)⟩ ⟨(Nat.le_of_ble_eq_true rfl), (Nat.le_of_ble_eq_true rfl)⟩ dX8_showOne_37 (fun r10 u9 H locs hp9 hw => ?_)
    obtain ⟨x11, x12, x13, x14, x15, x16, x17, x18, rfl, rfl, hf19, hf20⟩ := hp9
    have hw : Wd G s A [(qa_pictures, eI G 6 qa_pictures_c), (qs_after, eI G 6 qs_after_c), (qa, .inr (7, [.int qa_hour, .int x11, .int x12, .int x13, .int x14, .int qa_behind, .int x15, .int qa_seed, .ref qa_pictures, .ref qa_shown, .ref qa_sighed])), (qa_shown, eI G 6 x16), (qa_sighed, eI G 8 x17), (qs, .inr (4, [.int qs_slides, .int qs_hearers, .int qs_nears, .int qs_lines, .int qs_pass, .int qs_spread, .int qs_lamp, .int qs_behind, .int qs_settingsTold, .ref qs_slideNames, .ref qs_pictures, .ref qs_heats, .ref qs_after, .ref qs_hearerNames, .ref qs_needs, .ref qs_likes, .ref qs_hates, .ref qs_near])), (qs_heats, eI G 6 qs_heats_c), (qs_needs, eI G 8 qs_needs_c), (qs_likes, eI G 8 qs_likes_c), (qs_hates, eI G 8 qs_hates_c), (qs_near, eI G 8 qs_near_c)] H _ := hw
    have hw := hw.sub (w' := [(qa, .inr (7, [.int qa_hour, .int x11, .int x12, .int x13, .int x14, .int qa_behind, .int x15, .int qa_seed, .ref qa_pictures, .ref qa_shown, .ref qa_sighed])), (qa_pictures, eI G 6 qa_pictures_c), (qa_shown, eI G 6 x16), (qa_sighed, eI G 8 x17), (qs, .inr (4, [.int qs_slides, .int qs_hearers, .int qs_nears, .int qs_lines, .int qs_pass, .int qs_spread, .int qs_lamp, .int qs_behind, .int qs_settingsTold, .ref qs_slideNames, .ref qs_pictures, .ref qs_heats, .ref qs_after, .ref qs_hearerNames, .ref qs_needs, .ref qs_likes, .ref qs_hates, .ref qs_near])), (qs_heats, eI G 6 qs_heats_c), (qs_after, eI G 6 qs_after_c), (qs_needs, eI G 8 qs_needs_c), (qs_likes, eI G 8 qs_likes_c), (qs_hates, eI G 8 qs_hates_c), (qs_near, eI G 8 qs_near_c)]) [2, 0, 3, 4, 5, 6, 1, 7, 8, 9, 10] rfl rfl
    exact x_retiQ hQ B hw ⟨x11, x12, x13, x14, x15, x16, x17, r10, rfl, rfl, (by omega), (by omega)⟩ (Nat.le_of_ble_eq_true rfl) (Nat.le_of_ble_eq_true rfl) dX8_showOne_40
  · skip
    have c5 : r2.toInt ≠ 0 := i_eqF (X := r2.toInt) (Y := 0) rfl rfl c5
    refine lv_iconst (v := (-1)) C.1 C.2.1 dX8_showOne_15 (by decide) ?_
    refine lv_iload C.1 C.2.1 dX8_showOne_16 (lv_at hl 0 rfl) ?_
    refine lv_isub C.1 C.2.1 dX8_showOne_18 (x_genP (fun z : Int32 => z.toInt = (-1) - r2.toInt) (i_sub (X := (-1)) (Y := r2.toInt) rfl rfl (by omega) (by omega)) (fun v21 hv21 => ?_))
    refine lv_goto (tgt := 40) C.1 C.2.1 dX8_showOne_19 (by decide) ?_
    have hw := hw.sub (w' := [(qa, .inr (7, [.int qa_hour, .int qa_heat, .int qa_black, .int qa_so, .int qa_cracked, .int qa_behind, .int qa_allSighs, .int qa_seed, .ref qa_pictures, .ref qa_shown, .ref qa_sighed])), (qa_pictures, eI G 6 qa_pictures_c), (qa_shown, eI G 6 qa_shown_c), (qa_sighed, eI G 8 qa_sighed_c), (qs, .inr (4, [.int qs_slides, .int qs_hearers, .int qs_nears, .int qs_lines, .int qs_pass, .int qs_spread, .int qs_lamp, .int qs_behind, .int qs_settingsTold, .ref qs_slideNames, .ref qs_pictures, .ref qs_heats, .ref qs_after, .ref qs_hearerNames, .ref qs_needs, .ref qs_likes, .ref qs_hates, .ref qs_near])), (qs_heats, eI G 6 qs_heats_c), (qs_after, eI G 6 qs_after_c), (qs_needs, eI G 8 qs_needs_c), (qs_likes, eI G 8 qs_likes_c), (qs_hates, eI G 8 qs_hates_c), (qs_near, eI G 8 qs_near_c)]) [8, 0, 1, 2, 9, 3, 10, 4, 5, 6, 7] rfl rfl
    exact x_retiQ hQ B hw ⟨qa_heat, qa_black, qa_so, qa_cracked, qa_allSighs, qa_shown_c, qa_sighed_c, v21, rfl, rfl, (by omega), (by omega)⟩ (Nat.le_of_ble_eq_true rfl) (Nat.le_of_ble_eq_true rfl) dX8_showOne_40
theorem dX8_showTwo_0 : decode cX8_showTwo 0 = .ok (.iconst 1, 1) := by decide +kernel
theorem dX8_showTwo_1 : decode cX8_showTwo 1 = .ok (.iload_n 2, 1) := by decide +kernel
theorem dX8_showTwo_2 : decode cX8_showTwo 2 = .ok (.ishl, 1) := by decide +kernel
theorem dX8_showTwo_3 : decode cX8_showTwo 3 = .ok (.iconst 1, 1) := by decide +kernel
theorem dX8_showTwo_4 : decode cX8_showTwo 4 = .ok (.iload_n 3, 1) := by decide +kernel
theorem dX8_showTwo_5 : decode cX8_showTwo 5 = .ok (.ishl, 1) := by decide +kernel
theorem dX8_showTwo_6 : decode cX8_showTwo 6 = .ok (.ior, 1) := by decide +kernel
theorem dX8_showTwo_7 : decode cX8_showTwo 7 = .ok (.istore 4, 2) := by decide +kernel
theorem dX8_showTwo_9 : decode cX8_showTwo 9 = .ok (.iload_n 2, 1) := by decide +kernel
theorem dX8_showTwo_10 : decode cX8_showTwo 10 = .ok (.iload_n 3, 1) := by decide +kernel
theorem dX8_showTwo_11 : decode cX8_showTwo 11 = .ok (.if_icmp .ne 7, 3) := by decide +kernel
theorem dX8_showTwo_18 : decode cX8_showTwo 18 = .ok (.aload_n 0, 1) := by decide +kernel
theorem dX8_showTwo_19 : decode cX8_showTwo 19 = .ok (.aload_n 1, 1) := by decide +kernel
theorem dX8_showTwo_20 : decode cX8_showTwo 20 = .ok (.iload 4, 2) := by decide +kernel
theorem dX8_showTwo_22 : decode cX8_showTwo 22 = .ok (.invokevirtual 54, 3) := by decide +kernel
theorem dX8_showTwo_14 : decode cX8_showTwo 14 = .ok (.iconst 1, 1) := by decide +kernel
theorem dX8_showTwo_15 : decode cX8_showTwo 15 = .ok (.goto 10, 3) := by decide +kernel
theorem dX8_showTwo_25 : decode cX8_showTwo 25 = .ok (.istore 5, 2) := by decide +kernel
theorem dX8_showTwo_27 : decode cX8_showTwo 27 = .ok (.iload 5, 2) := by decide +kernel
theorem dX8_showTwo_29 : decode cX8_showTwo 29 = .ok (.ifCond .eq 10, 3) := by decide +kernel
theorem dX8_showTwo_39 : decode cX8_showTwo 39 = .ok (.aload_n 0, 1) := by decide +kernel
theorem dX8_showTwo_40 : decode cX8_showTwo 40 = .ok (.aload_n 1, 1) := by decide +kernel
theorem dX8_showTwo_41 : decode cX8_showTwo 41 = .ok (.iload 4, 2) := by decide +kernel
theorem dX8_showTwo_43 : decode cX8_showTwo 43 = .ok (.aload_n 0, 1) := by decide +kernel
theorem dX8_showTwo_44 : decode cX8_showTwo 44 = .ok (.getfield 9, 3) := by decide +kernel
theorem dX8_showTwo_47 : decode cX8_showTwo 47 = .ok (.iload_n 2, 1) := by decide +kernel
theorem dX8_showTwo_48 : decode cX8_showTwo 48 = .ok (.iaload, 1) := by decide +kernel
theorem dX8_showTwo_49 : decode cX8_showTwo 49 = .ok (.aload_n 0, 1) := by decide +kernel
theorem dX8_showTwo_50 : decode cX8_showTwo 50 = .ok (.getfield 9, 3) := by decide +kernel
theorem dX8_showTwo_53 : decode cX8_showTwo 53 = .ok (.iload_n 3, 1) := by decide +kernel
theorem dX8_showTwo_54 : decode cX8_showTwo 54 = .ok (.iaload, 1) := by decide +kernel
theorem dX8_showTwo_55 : decode cX8_showTwo 55 = .ok (.ior, 1) := by decide +kernel
theorem dX8_showTwo_56 : decode cX8_showTwo 56 = .ok (.invokevirtual 64, 3) := by decide +kernel
theorem dX8_showTwo_59 : decode cX8_showTwo 59 = .ok (.ireturn, 1) := by decide +kernel
theorem dX8_showTwo_32 : decode cX8_showTwo 32 = .ok (.iconst (-1), 1) := by decide +kernel
theorem dX8_showTwo_33 : decode cX8_showTwo 33 = .ok (.iload 5, 2) := by decide +kernel
theorem dX8_showTwo_35 : decode cX8_showTwo 35 = .ok (.isub, 1) := by decide +kernel
theorem dX8_showTwo_36 : decode cX8_showTwo 36 = .ok (.goto 23, 3) := by decide +kernel
set_option maxHeartbeats 4000000 in
set_option maxRecDepth 100000 in
theorem s_X8_showTwo {l : Launch} {G : Gc} (qa : Nat) (qs : Nat) (a1 : Int32) (a2 : Int32) (qa_hour : Int32) (qa_heat : Int32) (qa_black : Int32) (qa_so : Int32) (qa_cracked : Int32) (qa_behind : Int32) (qa_allSighs : Int32) (qa_seed : Int32) (qa_pictures : Nat) (qa_shown : Nat) (qa_sighed : Nat) (qa_pictures_c : Nat → Int32) (qa_shown_c : Nat → Int32) (qa_sighed_c : Nat → Int32) (qs_slides : Int32) (qs_hearers : Int32) (qs_nears : Int32) (qs_lines : Int32) (qs_pass : Int32) (qs_spread : Int32) (qs_lamp : Int32) (qs_behind : Int32) (qs_settingsTold : Int32) (qs_slideNames : Nat) (qs_pictures : Nat) (qs_heats : Nat) (qs_after : Nat) (qs_hearerNames : Nat) (qs_needs : Nat) (qs_likes : Nat) (qs_hates : Nat) (qs_near : Nat) (qs_heats_c : Nat → Int32) (qs_after_c : Nat → Int32) (qs_needs_c : Nat → Int32) (qs_likes_c : Nat → Int32) (qs_hates_c : Nat → Int32) (qs_near_c : Nat → Int32) (hi_a1 : 0 ≤ a1.toInt ∧ a1.toInt ≤ 5) (hi_a2 : 0 ≤ a2.toInt ∧ a2.toInt ≤ 5) (hi_qa_black : 0 ≤ qa_black.toInt ∧ qa_black.toInt ≤ 1) (hi_qs_slides : 0 ≤ qs_slides.toInt ∧ qs_slides.toInt ≤ 6) (hi_qs_hearers : 0 ≤ qs_hearers.toInt ∧ qs_hearers.toInt ≤ 8) (hf_qs_after_c : inA 6 (-1) 5 qs_after_c) : Ci l yX8_showTwo cX8_showTwo 6 (some .int) 4 0 0 G [.ref qa, .ref qs, .int a1, .int a2] [(qa, .inr (7, [.int qa_hour, .int qa_heat, .int qa_black, .int qa_so, .int qa_cracked, .int qa_behind, .int qa_allSighs, .int qa_seed, .ref qa_pictures, .ref qa_shown, .ref qa_sighed])), (qa_pictures, eI G 6 qa_pictures_c), (qa_shown, eI G 6 qa_shown_c), (qa_sighed, eI G 8 qa_sighed_c), (qs, .inr (4, [.int qs_slides, .int qs_hearers, .int qs_nears, .int qs_lines, .int qs_pass, .int qs_spread, .int qs_lamp, .int qs_behind, .int qs_settingsTold, .ref qs_slideNames, .ref qs_pictures, .ref qs_heats, .ref qs_after, .ref qs_hearerNames, .ref qs_needs, .ref qs_likes, .ref qs_hates, .ref qs_near])), (qs_heats, eI G 6 qs_heats_c), (qs_after, eI G 6 qs_after_c), (qs_needs, eI G 8 qs_needs_c), (qs_likes, eI G 8 qs_likes_c), (qs_hates, eI G 8 qs_hates_c), (qs_near, eI G 8 qs_near_c)] (fun (r9 : Int32) (u9 : va_W) => ∃ (x0_qa_heat : Int32) (x1_qa_black : Int32) (x2_qa_so : Int32) (x3_qa_cracked : Int32) (x4_qa_allSighs : Int32) (x5_qa_shown_c : Nat → Int32) (x6_qa_sighed_c : Nat → Int32) (r_x : Int32), r9 = r_x ∧ u9 = [(qa, .inr (7, [.int qa_hour, .int x0_qa_heat, .int x1_qa_black, .int x2_qa_so, .int x3_qa_cracked, .int qa_behind, .int x4_qa_allSighs, .int qa_seed, .ref qa_pictures, .ref qa_shown, .ref qa_sighed])), (qa_pictures, eI G 6 qa_pictures_c), (qa_shown, eI G 6 x5_qa_shown_c), (qa_sighed, eI G 8 x6_qa_sighed_c), (qs, .inr (4, [.int qs_slides, .int qs_hearers, .int qs_nears, .int qs_lines, .int qs_pass, .int qs_spread, .int qs_lamp, .int qs_behind, .int qs_settingsTold, .ref qs_slideNames, .ref qs_pictures, .ref qs_heats, .ref qs_after, .ref qs_hearerNames, .ref qs_needs, .ref qs_likes, .ref qs_hates, .ref qs_near])), (qs_heats, eI G 6 qs_heats_c), (qs_after, eI G 6 qs_after_c), (qs_needs, eI G 8 qs_needs_c), (qs_likes, eI G 8 qs_likes_c), (qs_hates, eI G 8 qs_hates_c), (qs_near, eI G 8 qs_near_c)] ∧ (0 ≤ x1_qa_black.toInt ∧ x1_qa_black.toInt ≤ 1) ∧ ((-5) ≤ r_x.toInt ∧ r_x.toInt ≤ 63)) := by
  refine Ci.ofQ (by decide) (Nat.le_of_ble_eq_true rfl) ?_
  intro p e s m below meth c ls A args Q hQ B hw hl
  have C : CallFix p m c cX8_showTwo 6 s args gw "LanternState$State" := B.1
  have hl : lv_has ls 6 [(0, .ref qa), (1, .ref qs), (2, .int a1), (3, .int a2)] := hl
  refine lv_iconst (v := 1) C.1 C.2.1 dX8_showTwo_0 (by decide) ?_
  refine lv_iload_n C.1 C.2.1 dX8_showTwo_1 rfl (lv_at hl 2 rfl) ?_
  refine lv_ishl C.1 C.2.1 dX8_showTwo_2 (x_genP (fun z : Int32 => 1 ≤ z.toInt ∧ z.toInt ≤ 256) (i_shl1 (by omega) (by omega)) (fun v1 hv1 => ?_))
  refine lv_iconst (v := 1) C.1 C.2.1 dX8_showTwo_3 (by decide) ?_
  refine lv_iload_n C.1 C.2.1 dX8_showTwo_4 rfl (lv_at hl 3 rfl) ?_
  refine lv_ishl C.1 C.2.1 dX8_showTwo_5 (x_genP (fun z : Int32 => 1 ≤ z.toInt ∧ z.toInt ≤ 256) (i_shl1 (by omega) (by omega)) (fun v2 hv2 => ?_))
  refine lv_ior C.1 C.2.1 dX8_showTwo_6 (x_gen (fun v3 => ?_))
  refine lv_istore (lv' := [(4, .int v3), (0, .ref qa), (1, .ref qs), (2, .int a1), (3, .int a2)]) C.1 C.2.1 dX8_showTwo_7 hl (by decide) rfl (fun ls hl => ?_)
  refine lv_iload_n C.1 C.2.1 dX8_showTwo_9 rfl (lv_at hl 3 rfl) ?_
  refine lv_iload_n C.1 C.2.1 dX8_showTwo_10 rfl (lv_at hl 4 rfl) ?_
  have J9 : ∀ (j8 : Int32), (0 ≤ j8.toInt ∧ j8.toInt ≤ 3) → ∀ (H : Heap) (locs : List Loc) (ls : Array Slot), Wd G s A [(qa, .inr (7, [.int qa_hour, .int qa_heat, .int qa_black, .int qa_so, .int qa_cracked, .int qa_behind, .int qa_allSighs, .int qa_seed, .ref qa_pictures, .ref qa_shown, .ref qa_sighed])), (qa_pictures, eI G 6 qa_pictures_c), (qa_shown, eI G 6 qa_shown_c), (qa_sighed, eI G 8 qa_sighed_c), (qs, .inr (4, [.int qs_slides, .int qs_hearers, .int qs_nears, .int qs_lines, .int qs_pass, .int qs_spread, .int qs_lamp, .int qs_behind, .int qs_settingsTold, .ref qs_slideNames, .ref qs_pictures, .ref qs_heats, .ref qs_after, .ref qs_hearerNames, .ref qs_needs, .ref qs_likes, .ref qs_hates, .ref qs_near])), (qs_heats, eI G 6 qs_heats_c), (qs_after, eI G 6 qs_after_c), (qs_needs, eI G 8 qs_needs_c), (qs_likes, eI G 8 qs_likes_c), (qs_hates, eI G 8 qs_hates_c), (qs_near, eI G 8 qs_near_c)] H locs → lv_has ls 6 [(4, .int v3), (0, .ref qa), (1, .ref qs), (2, .int a1), (3, .int a2)] → W p l e (rmD 4 0 0) s m args below meth c H locs 0 0 Q (F0 m 25 ls [.int j8]) := by
    intro j8 hJ9_0 H locs ls hw hl
    refine lv_istore (lv' := [(5, .int j8), (4, .int v3), (0, .ref qa), (1, .ref qs), (2, .int a1), (3, .int a2)]) C.1 C.2.1 dX8_showTwo_25 hl (by decide) rfl (fun ls hl => ?_)
    refine lv_iload C.1 C.2.1 dX8_showTwo_27 (lv_at hl 0 rfl) ?_
    refine lv_if_eq (tgt := 39) C.1 C.2.1 dX8_showTwo_29 (by decide) (fun c26 => ?_) (fun c26 => ?_)
    · skip
      have c26 : j8.toInt = 0 := i_eqT (X := j8.toInt) (Y := 0) rfl rfl c26
      refine lv_aload_n C.1 C.2.1 dX8_showTwo_39 rfl (lv_at hl 2 rfl) ?_
      refine lv_aload_n C.1 C.2.1 dX8_showTwo_40 rfl (lv_at hl 3 rfl) ?_
      refine lv_iload C.1 C.2.1 dX8_showTwo_41 (lv_at hl 1 rfl) ?_
      refine lv_aload_n C.1 C.2.1 dX8_showTwo_43 rfl (lv_at hl 2 rfl) ?_
      refine x_get C hw iwX8 7 rfl 0 rfl 8 (by decide) kw263 rfl dX8_showTwo_44 ?_
      refine lv_iload_n C.1 C.2.1 dX8_showTwo_47 rfl (lv_at hl 4 rfl) ?_
      refine x_iald (v := (qa_pictures_c a1.toNatClampNeg)) C hw 1 rfl (i_in (by omega) (by omega)) rfl dX8_showTwo_48 (x_gen (fun v27 => ?_))
      refine lv_aload_n C.1 C.2.1 dX8_showTwo_49 rfl (lv_at hl 2 rfl) ?_
      refine x_get C hw iwX8 7 rfl 0 rfl 8 (by decide) kw263 rfl dX8_showTwo_50 ?_
      refine lv_iload_n C.1 C.2.1 dX8_showTwo_53 rfl (lv_at hl 5 rfl) ?_
      refine x_iald (v := (qa_pictures_c a2.toNatClampNeg)) C hw 1 rfl (i_in (by omega) (by omega)) rfl dX8_showTwo_54 (x_gen (fun v28 => ?_))
      refine lv_ior C.1 C.2.1 dX8_showTwo_55 (x_gen (fun v29 => ?_))
      refine x_calliV (As := [.ref qs, .int v3, .int v29]) (rest := []) (wr := [(qa_pictures, eI G 6 qa_pictures_c), (qs_after, eI G 6 qs_after_c)]) C hw (s_X8_project qa qs v3 v29 qa_hour qa_heat qa_black qa_so qa_cracked qa_behind qa_allSighs qa_seed qa_pictures qa_shown qa_sighed qa_shown_c qa_sighed_c qs_slides qs_hearers qs_nears qs_lines qs_pass qs_spread qs_lamp qs_behind qs_settingsTold qs_slideNames qs_pictures qs_heats qs_after qs_hearerNames qs_needs qs_likes qs_hates qs_near qs_heats_c qs_needs_c qs_likes_c qs_hates_c qs_near_c (by omega) (by omega) (by omega)) mwX8_project kw708 [0, 2, 3, 4, 5, 7, 8, 9, 10] [1, 6] rfl rfl rfl rfl (by decide) 0 rfl rfl rfl rfl hl.1 rfl (Nat.le_of_ble_eq_true rfl) ⟨(Nat.le_of_ble_eq_true rfl), (Nat.le_of_ble_eq_true rfl)⟩ ⟨(Nat.le_of_ble_eq_true rfl), (Nat.le_of_ble_eq_true rfl)⟩ dX8_showTwo_56 (fun r30 u9 H locs hp9 hw => ?_)
      obtain ⟨x31, x32, x33, x34, x35, x36, x37, x38, rfl, rfl, hf39, hf40⟩ := hp9
      have hw : Wd G s A [(qa_pictures, eI G 6 qa_pictures_c), (qs_after, eI G 6 qs_after_c), (qa, .inr (7, [.int qa_hour, .int x31, .int x32, .int x33, .int x34, .int qa_behind, .int x35, .int qa_seed, .ref qa_pictures, .ref qa_shown, .ref qa_sighed])), (qa_shown, eI G 6 x36), (qa_sighed, eI G 8 x37), (qs, .inr (4, [.int qs_slides, .int qs_hearers, .int qs_nears, .int qs_lines, .int qs_pass, .int qs_spread, .int qs_lamp, .int qs_behind, .int qs_settingsTold, .ref qs_slideNames, .ref qs_pictures, .ref qs_heats, .ref qs_after, .ref qs_hearerNames, .ref qs_needs, .ref qs_likes, .ref qs_hates, .ref qs_near])), (qs_heats, eI G 6 qs_heats_c), (qs_needs, eI G 8 qs_needs_c), (qs_likes, eI G 8 qs_likes_c), (qs_hates, eI G 8 qs_hates_c), (qs_near, eI G 8 qs_near_c)] H _ := hw
      have hw := hw.sub (w' := [(qa, .inr (7, [.int qa_hour, .int x31, .int x32, .int x33, .int x34, .int qa_behind, .int x35, .int qa_seed, .ref qa_pictures, .ref qa_shown, .ref qa_sighed])), (qa_pictures, eI G 6 qa_pictures_c), (qa_shown, eI G 6 x36), (qa_sighed, eI G 8 x37), (qs, .inr (4, [.int qs_slides, .int qs_hearers, .int qs_nears, .int qs_lines, .int qs_pass, .int qs_spread, .int qs_lamp, .int qs_behind, .int qs_settingsTold, .ref qs_slideNames, .ref qs_pictures, .ref qs_heats, .ref qs_after, .ref qs_hearerNames, .ref qs_needs, .ref qs_likes, .ref qs_hates, .ref qs_near])), (qs_heats, eI G 6 qs_heats_c), (qs_after, eI G 6 qs_after_c), (qs_needs, eI G 8 qs_needs_c), (qs_likes, eI G 8 qs_likes_c), (qs_hates, eI G 8 qs_hates_c), (qs_near, eI G 8 qs_near_c)]) [2, 0, 3, 4, 5, 6, 1, 7, 8, 9, 10] rfl rfl
      exact x_retiQ hQ B hw ⟨x31, x32, x33, x34, x35, x36, x37, r30, rfl, rfl, (by omega), (by omega)⟩ (Nat.le_of_ble_eq_true rfl) (Nat.le_of_ble_eq_true rfl) dX8_showTwo_59
    · skip
      have c26 : j8.toInt ≠ 0 := i_eqF (X := j8.toInt) (Y := 0) rfl rfl c26
      refine lv_iconst (v := (-1)) C.1 C.2.1 dX8_showTwo_32 (by decide) ?_
      refine lv_iload C.1 C.2.1 dX8_showTwo_33 (lv_at hl 0 rfl) ?_
      refine lv_isub C.1 C.2.1 dX8_showTwo_35 (x_genP (fun z : Int32 => z.toInt = (-1) - j8.toInt) (i_sub (X := (-1)) (Y := j8.toInt) rfl rfl (by omega) (by omega)) (fun v41 hv41 => ?_))
      refine lv_goto (tgt := 59) C.1 C.2.1 dX8_showTwo_36 (by decide) ?_
      exact x_retiQ hQ B hw ⟨qa_heat, qa_black, qa_so, qa_cracked, qa_allSighs, qa_shown_c, qa_sighed_c, v41, rfl, rfl, (by omega), (by omega)⟩ (Nat.le_of_ble_eq_true rfl) (Nat.le_of_ble_eq_true rfl) dX8_showTwo_59
  refine lv_icmp_ne (tgt := 18) C.1 C.2.1 dX8_showTwo_11 (by decide) (fun c4 => ?_) (fun c4 => ?_)
  · skip
    have c4 : a1.toInt ≠ a2.toInt := i_eqF (X := a1.toInt) (Y := a2.toInt) rfl rfl c4
    refine lv_aload_n C.1 C.2.1 dX8_showTwo_18 rfl (lv_at hl 1 rfl) ?_
    refine lv_aload_n C.1 C.2.1 dX8_showTwo_19 rfl (lv_at hl 2 rfl) ?_
    refine lv_iload C.1 C.2.1 dX8_showTwo_20 (lv_at hl 0 rfl) ?_
    refine x_calliV (As := [.ref qs, .int v3]) (rest := []) (wr := [(qa_pictures, eI G 6 qa_pictures_c), (qa_shown, eI G 6 qa_shown_c), (qa_sighed, eI G 8 qa_sighed_c), (qs_heats, eI G 6 qs_heats_c), (qs_needs, eI G 8 qs_needs_c), (qs_likes, eI G 8 qs_likes_c), (qs_hates, eI G 8 qs_hates_c), (qs_near, eI G 8 qs_near_c)]) C hw (s_X8_whyNotShow qa qs v3 qa_hour qa_heat qa_black qa_so qa_cracked qa_behind qa_allSighs qa_seed qa_pictures qa_shown qa_sighed qs_slides qs_hearers qs_nears qs_lines qs_pass qs_spread qs_lamp qs_behind qs_settingsTold qs_slideNames qs_pictures qs_heats qs_after qs_hearerNames qs_needs qs_likes qs_hates qs_near qs_after_c (by omega) (by omega) hf_qs_after_c) mwX8_whyNotShow kw699 [0, 4, 6] [1, 2, 3, 5, 7, 8, 9, 10] rfl rfl rfl rfl (by decide) 0 rfl rfl rfl rfl hl.1 rfl (Nat.le_of_ble_eq_true rfl) ⟨(Nat.le_of_ble_eq_true rfl), (Nat.le_of_ble_eq_true rfl)⟩ ⟨(Nat.le_of_ble_eq_true rfl), (Nat.le_of_ble_eq_true rfl)⟩ dX8_showTwo_22 (fun r42 u9 H locs hp9 hw => ?_)
    obtain ⟨x43, rfl, rfl, hf44⟩ := hp9
    have hw : Wd G s A [(qa_pictures, eI G 6 qa_pictures_c), (qa_shown, eI G 6 qa_shown_c), (qa_sighed, eI G 8 qa_sighed_c), (qs_heats, eI G 6 qs_heats_c), (qs_needs, eI G 8 qs_needs_c), (qs_likes, eI G 8 qs_likes_c), (qs_hates, eI G 8 qs_hates_c), (qs_near, eI G 8 qs_near_c), (qa, .inr (7, [.int qa_hour, .int qa_heat, .int qa_black, .int qa_so, .int qa_cracked, .int qa_behind, .int qa_allSighs, .int qa_seed, .ref qa_pictures, .ref qa_shown, .ref qa_sighed])), (qs, .inr (4, [.int qs_slides, .int qs_hearers, .int qs_nears, .int qs_lines, .int qs_pass, .int qs_spread, .int qs_lamp, .int qs_behind, .int qs_settingsTold, .ref qs_slideNames, .ref qs_pictures, .ref qs_heats, .ref qs_after, .ref qs_hearerNames, .ref qs_needs, .ref qs_likes, .ref qs_hates, .ref qs_near])), (qs_after, eI G 6 qs_after_c)] H _ := hw
    have hw := hw.sub (w' := [(qa, .inr (7, [.int qa_hour, .int qa_heat, .int qa_black, .int qa_so, .int qa_cracked, .int qa_behind, .int qa_allSighs, .int qa_seed, .ref qa_pictures, .ref qa_shown, .ref qa_sighed])), (qa_pictures, eI G 6 qa_pictures_c), (qa_shown, eI G 6 qa_shown_c), (qa_sighed, eI G 8 qa_sighed_c), (qs, .inr (4, [.int qs_slides, .int qs_hearers, .int qs_nears, .int qs_lines, .int qs_pass, .int qs_spread, .int qs_lamp, .int qs_behind, .int qs_settingsTold, .ref qs_slideNames, .ref qs_pictures, .ref qs_heats, .ref qs_after, .ref qs_hearerNames, .ref qs_needs, .ref qs_likes, .ref qs_hates, .ref qs_near])), (qs_heats, eI G 6 qs_heats_c), (qs_after, eI G 6 qs_after_c), (qs_needs, eI G 8 qs_needs_c), (qs_likes, eI G 8 qs_likes_c), (qs_hates, eI G 8 qs_hates_c), (qs_near, eI G 8 qs_near_c)]) [8, 0, 1, 2, 9, 3, 10, 4, 5, 6, 7] rfl rfl
    exact J9 r42  (by omega) _ _ _ hw (lv_sub hl [0, 1, 2, 3, 4] rfl)
  · skip
    have c4 : a1.toInt = a2.toInt := i_eqT (X := a1.toInt) (Y := a2.toInt) rfl rfl c4
    refine lv_iconst (v := 1) C.1 C.2.1 dX8_showTwo_14 (by decide) ?_
    refine lv_goto (tgt := 25) C.1 C.2.1 dX8_showTwo_15 (by decide) ?_
    exact J9 1  (by decide) _ _ _ hw (lv_sub hl [0, 1, 2, 3, 4] rfl)
theorem dX8_scratchCell_0 : decode cX8_scratchCell 0 = .ok (.aload_n 0, 1) := by decide +kernel
theorem dX8_scratchCell_1 : decode cX8_scratchCell 1 = .ok (.getfield 35, 3) := by decide +kernel
theorem dX8_scratchCell_4 : decode cX8_scratchCell 4 = .ok (.iload_n 1, 1) := by decide +kernel
theorem dX8_scratchCell_5 : decode cX8_scratchCell 5 = .ok (.ishr, 1) := by decide +kernel
theorem dX8_scratchCell_6 : decode cX8_scratchCell 6 = .ok (.iconst 1, 1) := by decide +kernel
theorem dX8_scratchCell_7 : decode cX8_scratchCell 7 = .ok (.iand, 1) := by decide +kernel
theorem dX8_scratchCell_8 : decode cX8_scratchCell 8 = .ok (.ifCond .eq 5, 3) := by decide +kernel
theorem dX8_scratchCell_13 : decode cX8_scratchCell 13 = .ok (.aload_n 0, 1) := by decide +kernel
theorem dX8_scratchCell_14 : decode cX8_scratchCell 14 = .ok (.getfield 9, 3) := by decide +kernel
theorem dX8_scratchCell_17 : decode cX8_scratchCell 17 = .ok (.iload_n 1, 1) := by decide +kernel
theorem dX8_scratchCell_18 : decode cX8_scratchCell 18 = .ok (.dup2, 1) := by decide +kernel
theorem dX8_scratchCell_19 : decode cX8_scratchCell 19 = .ok (.iaload, 1) := by decide +kernel
theorem dX8_scratchCell_20 : decode cX8_scratchCell 20 = .ok (.iload_n 2, 1) := by decide +kernel
theorem dX8_scratchCell_21 : decode cX8_scratchCell 21 = .ok (.ixor, 1) := by decide +kernel
theorem dX8_scratchCell_22 : decode cX8_scratchCell 22 = .ok (.iastore, 1) := by decide +kernel
theorem dX8_scratchCell_23 : decode cX8_scratchCell 23 = .ok (.iconst 0, 1) := by decide +kernel
theorem dX8_scratchCell_24 : decode cX8_scratchCell 24 = .ok (.ireturn, 1) := by decide +kernel
theorem dX8_scratchCell_11 : decode cX8_scratchCell 11 = .ok (.iconst 1, 1) := by decide +kernel
theorem dX8_scratchCell_12 : decode cX8_scratchCell 12 = .ok (.ireturn, 1) := by decide +kernel
set_option maxHeartbeats 4000000 in
set_option maxRecDepth 100000 in
theorem s_X8_scratchCell {l : Launch} {G : Gc} (qa : Nat) (a1 : Int32) (a2 : Int32) (qa_hour : Int32) (qa_heat : Int32) (qa_black : Int32) (qa_so : Int32) (qa_cracked : Int32) (qa_behind : Int32) (qa_allSighs : Int32) (qa_seed : Int32) (qa_pictures : Nat) (qa_shown : Nat) (qa_sighed : Nat) (qa_pictures_c : Nat → Int32) (hi_a1 : 0 ≤ a1.toInt ∧ a1.toInt ≤ 5) : Ci l yX8_scratchCell cX8_scratchCell 3 (some .int) 0 0 0 G [.ref qa, .int a1, .int a2] [(qa, .inr (7, [.int qa_hour, .int qa_heat, .int qa_black, .int qa_so, .int qa_cracked, .int qa_behind, .int qa_allSighs, .int qa_seed, .ref qa_pictures, .ref qa_shown, .ref qa_sighed])), (qa_pictures, eI G 6 qa_pictures_c)] (fun (r9 : Int32) (u9 : va_W) => ∃ (x0_qa_pictures_c : Nat → Int32) (r_x : Int32), r9 = r_x ∧ u9 = [(qa, .inr (7, [.int qa_hour, .int qa_heat, .int qa_black, .int qa_so, .int qa_cracked, .int qa_behind, .int qa_allSighs, .int qa_seed, .ref qa_pictures, .ref qa_shown, .ref qa_sighed])), (qa_pictures, eI G 6 x0_qa_pictures_c)] ∧ (0 ≤ r_x.toInt ∧ r_x.toInt ≤ 1)) := by
  refine Ci.ofQ (by decide) (Nat.le_of_ble_eq_true rfl) ?_
  intro p e s m below meth c ls A args Q hQ B hw hl
  have C : CallFix p m c cX8_scratchCell 3 s args gw "LanternState$State" := B.1
  have hl : lv_has ls 3 [(0, .ref qa), (1, .int a1), (2, .int a2)] := hl
  refine lv_aload_n C.1 C.2.1 dX8_scratchCell_0 rfl (lv_at hl 0 rfl) ?_
  refine x_get C hw iwX8 7 rfl 0 rfl 4 (by decide) kw251 rfl dX8_scratchCell_1 ?_
  refine lv_iload_n C.1 C.2.1 dX8_scratchCell_4 rfl (lv_at hl 1 rfl) ?_
  refine lv_ishr C.1 C.2.1 dX8_scratchCell_5 (x_gen (fun v1 => ?_))
  refine lv_iconst (v := 1) C.1 C.2.1 dX8_scratchCell_6 (by decide) ?_
  refine lv_iand C.1 C.2.1 dX8_scratchCell_7 (x_genP (fun z : Int32 => 0 ≤ z.toInt ∧ z.toInt ≤ 1) (i_andR 1 rfl (by decide) rfl) (fun v2 hv2 => ?_))
  refine lv_if_eq (tgt := 13) C.1 C.2.1 dX8_scratchCell_8 (by decide) (fun c3 => ?_) (fun c3 => ?_)
  · skip
    have c3 : v2.toInt = 0 := i_eqT (X := v2.toInt) (Y := 0) rfl rfl c3
    refine lv_aload_n C.1 C.2.1 dX8_scratchCell_13 rfl (lv_at hl 0 rfl) ?_
    refine x_get C hw iwX8 7 rfl 0 rfl 8 (by decide) kw263 rfl dX8_scratchCell_14 ?_
    refine lv_iload_n C.1 C.2.1 dX8_scratchCell_17 rfl (lv_at hl 1 rfl) ?_
    refine lv_dup2_11 C.1 C.2.1 dX8_scratchCell_18 rfl rfl ?_
    refine x_iald (v := (qa_pictures_c a1.toNatClampNeg)) C hw 1 rfl (i_in (by omega) (by omega)) rfl dX8_scratchCell_19 (x_gen (fun v4 => ?_))
    refine lv_iload_n C.1 C.2.1 dX8_scratchCell_20 rfl (lv_at hl 2 rfl) ?_
    refine lv_ixor C.1 C.2.1 dX8_scratchCell_21 (x_gen (fun v5 => ?_))
    obtain ⟨g6, eg6⟩ : ∃ z, upd qa_pictures_c (a1.toNatClampNeg) v5 = z := ⟨_, rfl⟩
    refine x_iast (f' := g6) (w' := [(qa, .inr (7, [.int qa_hour, .int qa_heat, .int qa_black, .int qa_so, .int qa_cracked, .int qa_behind, .int qa_allSighs, .int qa_seed, .ref qa_pictures, .ref qa_shown, .ref qa_sighed])), (qa_pictures, eI G 6 g6)]) C hw 1 rfl (i_in (by omega) (by omega)) eg6 rfl dX8_scratchCell_22 (fun H locs hw => ?_)
    refine lv_iconst (v := 0) C.1 C.2.1 dX8_scratchCell_23 (by decide) ?_
    exact x_retiQ hQ B hw ⟨g6, 0, rfl, rfl, (by decide)⟩ (Nat.le_of_ble_eq_true rfl) (Nat.le_of_ble_eq_true rfl) dX8_scratchCell_24
  · skip
    have c3 : v2.toInt ≠ 0 := i_eqF (X := v2.toInt) (Y := 0) rfl rfl c3
    refine lv_iconst (v := 1) C.1 C.2.1 dX8_scratchCell_11 (by decide) ?_
    exact x_retiQ hQ B hw ⟨qa_pictures_c, 1, rfl, rfl, (by decide)⟩ (Nat.le_of_ble_eq_true rfl) (Nat.le_of_ble_eq_true rfl) dX8_scratchCell_12
theorem dX8_seatHearer_0 : decode cX8_seatHearer 0 = .ok (.aload_n 0, 1) := by decide +kernel
theorem dX8_seatHearer_1 : decode cX8_seatHearer 1 = .ok (.getfield 43, 3) := by decide +kernel
theorem dX8_seatHearer_4 : decode cX8_seatHearer 4 = .ok (.iload_n 1, 1) := by decide +kernel
theorem dX8_seatHearer_5 : decode cX8_seatHearer 5 = .ok (.ishr, 1) := by decide +kernel
theorem dX8_seatHearer_6 : decode cX8_seatHearer 6 = .ok (.iconst 1, 1) := by decide +kernel
theorem dX8_seatHearer_7 : decode cX8_seatHearer 7 = .ok (.iand, 1) := by decide +kernel
theorem dX8_seatHearer_8 : decode cX8_seatHearer 8 = .ok (.iload_n 2, 1) := by decide +kernel
theorem dX8_seatHearer_9 : decode cX8_seatHearer 9 = .ok (.if_icmp .ne 5, 3) := by decide +kernel
theorem dX8_seatHearer_14 : decode cX8_seatHearer 14 = .ok (.aload_n 0, 1) := by decide +kernel
theorem dX8_seatHearer_15 : decode cX8_seatHearer 15 = .ok (.dup, 1) := by decide +kernel
theorem dX8_seatHearer_16 : decode cX8_seatHearer 16 = .ok (.getfield 43, 3) := by decide +kernel
theorem dX8_seatHearer_19 : decode cX8_seatHearer 19 = .ok (.iconst 1, 1) := by decide +kernel
theorem dX8_seatHearer_20 : decode cX8_seatHearer 20 = .ok (.iload_n 1, 1) := by decide +kernel
theorem dX8_seatHearer_21 : decode cX8_seatHearer 21 = .ok (.ishl, 1) := by decide +kernel
theorem dX8_seatHearer_22 : decode cX8_seatHearer 22 = .ok (.ixor, 1) := by decide +kernel
theorem dX8_seatHearer_23 : decode cX8_seatHearer 23 = .ok (.putfield 43, 3) := by decide +kernel
theorem dX8_seatHearer_26 : decode cX8_seatHearer 26 = .ok (.iconst 0, 1) := by decide +kernel
theorem dX8_seatHearer_27 : decode cX8_seatHearer 27 = .ok (.ireturn, 1) := by decide +kernel
theorem dX8_seatHearer_12 : decode cX8_seatHearer 12 = .ok (.iconst 1, 1) := by decide +kernel
theorem dX8_seatHearer_13 : decode cX8_seatHearer 13 = .ok (.ireturn, 1) := by decide +kernel
set_option maxHeartbeats 4000000 in
set_option maxRecDepth 100000 in
theorem s_X8_seatHearer {l : Launch} {G : Gc} (qa : Nat) (a1 : Int32) (a2 : Int32) (qa_hour : Int32) (qa_heat : Int32) (qa_black : Int32) (qa_so : Int32) (qa_cracked : Int32) (qa_behind : Int32) (qa_allSighs : Int32) (qa_seed : Int32) (qa_pictures : Nat) (qa_shown : Nat) (qa_sighed : Nat)  : Ci l yX8_seatHearer cX8_seatHearer 3 (some .int) 0 0 0 G [.ref qa, .int a1, .int a2] [(qa, .inr (7, [.int qa_hour, .int qa_heat, .int qa_black, .int qa_so, .int qa_cracked, .int qa_behind, .int qa_allSighs, .int qa_seed, .ref qa_pictures, .ref qa_shown, .ref qa_sighed]))] (fun (r9 : Int32) (u9 : va_W) => ∃ (x0_qa_behind : Int32) (r_x : Int32), r9 = r_x ∧ u9 = [(qa, .inr (7, [.int qa_hour, .int qa_heat, .int qa_black, .int qa_so, .int qa_cracked, .int x0_qa_behind, .int qa_allSighs, .int qa_seed, .ref qa_pictures, .ref qa_shown, .ref qa_sighed]))] ∧ (0 ≤ r_x.toInt ∧ r_x.toInt ≤ 1)) := by
  refine Ci.ofQ (by decide) (Nat.le_of_ble_eq_true rfl) ?_
  intro p e s m below meth c ls A args Q hQ B hw hl
  have C : CallFix p m c cX8_seatHearer 3 s args gw "LanternState$State" := B.1
  have hl : lv_has ls 3 [(0, .ref qa), (1, .int a1), (2, .int a2)] := hl
  refine lv_aload_n C.1 C.2.1 dX8_seatHearer_0 rfl (lv_at hl 0 rfl) ?_
  refine x_get C hw iwX8 7 rfl 0 rfl 5 (by decide) kw256 rfl dX8_seatHearer_1 ?_
  refine lv_iload_n C.1 C.2.1 dX8_seatHearer_4 rfl (lv_at hl 1 rfl) ?_
  refine lv_ishr C.1 C.2.1 dX8_seatHearer_5 (x_gen (fun v1 => ?_))
  refine lv_iconst (v := 1) C.1 C.2.1 dX8_seatHearer_6 (by decide) ?_
  refine lv_iand C.1 C.2.1 dX8_seatHearer_7 (x_genP (fun z : Int32 => 0 ≤ z.toInt ∧ z.toInt ≤ 1) (i_andR 1 rfl (by decide) rfl) (fun v2 hv2 => ?_))
  refine lv_iload_n C.1 C.2.1 dX8_seatHearer_8 rfl (lv_at hl 2 rfl) ?_
  refine lv_icmp_ne (tgt := 14) C.1 C.2.1 dX8_seatHearer_9 (by decide) (fun c3 => ?_) (fun c3 => ?_)
  · skip
    have c3 : v2.toInt ≠ a2.toInt := i_eqF (X := v2.toInt) (Y := a2.toInt) rfl rfl c3
    have bc3_a2 := i_bd a2
    refine lv_aload_n C.1 C.2.1 dX8_seatHearer_14 rfl (lv_at hl 0 rfl) ?_
    refine lv_dup C.1 C.2.1 dX8_seatHearer_15 rfl ?_
    refine x_get C hw iwX8 7 rfl 0 rfl 5 (by decide) kw256 rfl dX8_seatHearer_16 ?_
    refine lv_iconst (v := 1) C.1 C.2.1 dX8_seatHearer_19 (by decide) ?_
    refine lv_iload_n C.1 C.2.1 dX8_seatHearer_20 rfl (lv_at hl 1 rfl) ?_
    refine lv_ishl C.1 C.2.1 dX8_seatHearer_21 (x_gen (fun v4 => ?_))
    refine lv_ixor C.1 C.2.1 dX8_seatHearer_22 (x_gen (fun v5 => ?_))
    refine x_put (w' := [(qa, .inr (7, [.int qa_hour, .int qa_heat, .int qa_black, .int qa_so, .int qa_cracked, .int v5, .int qa_allSighs, .int qa_seed, .ref qa_pictures, .ref qa_shown, .ref qa_sighed]))]) C hw iwX8 tyX8_ok nmX8 7 rfl 0 rfl 5 (by decide) kw256 rfl rfl rfl (Nat.le_of_ble_eq_true rfl) rfl dX8_seatHearer_23 (fun H locs hw => ?_)
    refine lv_iconst (v := 0) C.1 C.2.1 dX8_seatHearer_26 (by decide) ?_
    exact x_retiQ hQ B hw ⟨v5, 0, rfl, rfl, (by decide)⟩ (Nat.le_of_ble_eq_true rfl) (Nat.le_of_ble_eq_true rfl) dX8_seatHearer_27
  · skip
    have c3 : v2.toInt = a2.toInt := i_eqT (X := v2.toInt) (Y := a2.toInt) rfl rfl c3
    have bc3_a2 := i_bd a2
    refine lv_iconst (v := 1) C.1 C.2.1 dX8_seatHearer_12 (by decide) ?_
    exact x_retiQ hQ B hw ⟨qa_behind, 1, rfl, rfl, (by decide)⟩ (Nat.le_of_ble_eq_true rfl) (Nat.le_of_ble_eq_true rfl) dX8_seatHearer_13
theorem dX8_letHourGo_0 : decode cX8_letHourGo 0 = .ok (.aload_n 0, 1) := by decide +kernel
theorem dX8_letHourGo_1 : decode cX8_letHourGo 1 = .ok (.iconst 0, 1) := by decide +kernel
theorem dX8_letHourGo_2 : decode cX8_letHourGo 2 = .ok (.aload_n 0, 1) := by decide +kernel
theorem dX8_letHourGo_3 : decode cX8_letHourGo 3 = .ok (.getfield 25, 3) := by decide +kernel
theorem dX8_letHourGo_6 : decode cX8_letHourGo 6 = .ok (.iconst 5, 1) := by decide +kernel
theorem dX8_letHourGo_7 : decode cX8_letHourGo 7 = .ok (.isub, 1) := by decide +kernel
theorem dX8_letHourGo_8 : decode cX8_letHourGo 8 = .ok (.invokestatic 107, 3) := by decide +kernel
theorem dX8_letHourGo_11 : decode cX8_letHourGo 11 = .ok (.putfield 25, 3) := by decide +kernel
theorem dX8_letHourGo_14 : decode cX8_letHourGo 14 = .ok (.aload_n 0, 1) := by decide +kernel
theorem dX8_letHourGo_15 : decode cX8_letHourGo 15 = .ok (.getfield 25, 3) := by decide +kernel
theorem dX8_letHourGo_18 : decode cX8_letHourGo 18 = .ok (.ifCond .ne 8, 3) := by decide +kernel
theorem dX8_letHourGo_26 : decode cX8_letHourGo 26 = .ok (.aload_n 0, 1) := by decide +kernel
theorem dX8_letHourGo_27 : decode cX8_letHourGo 27 = .ok (.dup, 1) := by decide +kernel
theorem dX8_letHourGo_28 : decode cX8_letHourGo 28 = .ok (.getfield 21, 3) := by decide +kernel
theorem dX8_letHourGo_31 : decode cX8_letHourGo 31 = .ok (.iconst 1, 1) := by decide +kernel
theorem dX8_letHourGo_32 : decode cX8_letHourGo 32 = .ok (.iadd, 1) := by decide +kernel
theorem dX8_letHourGo_33 : decode cX8_letHourGo 33 = .ok (.putfield 21, 3) := by decide +kernel
theorem dX8_letHourGo_36 : decode cX8_letHourGo 36 = .ok (.return_, 1) := by decide +kernel
theorem dX8_letHourGo_21 : decode cX8_letHourGo 21 = .ok (.aload_n 0, 1) := by decide +kernel
theorem dX8_letHourGo_22 : decode cX8_letHourGo 22 = .ok (.iconst 0, 1) := by decide +kernel
theorem dX8_letHourGo_23 : decode cX8_letHourGo 23 = .ok (.putfield 28, 3) := by decide +kernel
set_option maxHeartbeats 4000000 in
set_option maxRecDepth 100000 in
theorem s_X8_letHourGo {l : Launch} {G : Gc} (qa : Nat) (qa_hour : Int32) (qa_heat : Int32) (qa_black : Int32) (qa_so : Int32) (qa_cracked : Int32) (qa_behind : Int32) (qa_allSighs : Int32) (qa_seed : Int32) (qa_pictures : Nat) (qa_shown : Nat) (qa_sighed : Nat) (hi_qa_black : 0 ≤ qa_black.toInt ∧ qa_black.toInt ≤ 1) : Cv l yX8_letHourGo cX8_letHourGo 1 1 0 0 G [.ref qa] [(qa, .inr (7, [.int qa_hour, .int qa_heat, .int qa_black, .int qa_so, .int qa_cracked, .int qa_behind, .int qa_allSighs, .int qa_seed, .ref qa_pictures, .ref qa_shown, .ref qa_sighed]))] (fun (u9 : va_W) => ∃ (x0_qa_hour : Int32) (x1_qa_heat : Int32) (x2_qa_black : Int32), u9 = [(qa, .inr (7, [.int x0_qa_hour, .int x1_qa_heat, .int x2_qa_black, .int qa_so, .int qa_cracked, .int qa_behind, .int qa_allSighs, .int qa_seed, .ref qa_pictures, .ref qa_shown, .ref qa_sighed]))] ∧ (0 ≤ x2_qa_black.toInt ∧ x2_qa_black.toInt ≤ 1)) := by
  refine Cv.ofQ (by decide) (Nat.le_of_ble_eq_true rfl) ?_
  intro p e s m below meth c ls A args Q hQ B hw hl
  have C : CallFix p m c cX8_letHourGo 1 s args gw "LanternState$State" := B.1
  have hl : lv_has ls 1 [(0, .ref qa)] := hl
  refine lv_aload_n C.1 C.2.1 dX8_letHourGo_0 rfl (lv_at hl 0 rfl) ?_
  refine lv_iconst (v := 0) C.1 C.2.1 dX8_letHourGo_1 (by decide) ?_
  refine lv_aload_n C.1 C.2.1 dX8_letHourGo_2 rfl (lv_at hl 0 rfl) ?_
  refine x_get C hw iwX8 7 rfl 0 rfl 1 (by decide) kw240 rfl dX8_letHourGo_3 ?_
  refine lv_iconst (v := 5) C.1 C.2.1 dX8_letHourGo_6 (by decide) ?_
  refine lv_isub C.1 C.2.1 dX8_letHourGo_7 (x_gen (fun v1 => ?_))
  refine va_mmax C.1 C.2.1 (C.2.2.1.trans hl.1.symm) C.2.2.2.1 (C.2.2.2.2 _ kw784) (C.2.2.2.2 _ kw785) (C.2.2.2.2 _ kw23) (C.2.2.2.2 _ kw786) (Nat.le_of_ble_eq_true rfl) (Nat.le_of_ble_eq_true rfl) (Nat.le_of_ble_eq_true rfl) (Nat.le_of_ble_eq_true rfl) dX8_letHourGo_8 (x_gen (fun v2 => ?_))
  refine x_put (w' := [(qa, .inr (7, [.int qa_hour, .int v2, .int qa_black, .int qa_so, .int qa_cracked, .int qa_behind, .int qa_allSighs, .int qa_seed, .ref qa_pictures, .ref qa_shown, .ref qa_sighed]))]) C hw iwX8 tyX8_ok nmX8 7 rfl 0 rfl 1 (by decide) kw240 rfl rfl rfl (Nat.le_of_ble_eq_true rfl) rfl dX8_letHourGo_11 (fun H locs hw => ?_)
  refine lv_aload_n C.1 C.2.1 dX8_letHourGo_14 rfl (lv_at hl 0 rfl) ?_
  refine x_get C hw iwX8 7 rfl 0 rfl 1 (by decide) kw240 rfl dX8_letHourGo_15 ?_
  refine lv_if_ne (tgt := 26) C.1 C.2.1 dX8_letHourGo_18 (by decide) (fun c3 => ?_) (fun c3 => ?_)
  · skip
    have c3 : v2.toInt ≠ 0 := i_eqF (X := v2.toInt) (Y := 0) rfl rfl c3
    have bc3_v2 := i_bd v2
    refine lv_aload_n C.1 C.2.1 dX8_letHourGo_26 rfl (lv_at hl 0 rfl) ?_
    refine lv_dup C.1 C.2.1 dX8_letHourGo_27 rfl ?_
    refine x_get C hw iwX8 7 rfl 0 rfl 0 (by decide) kw237 rfl dX8_letHourGo_28 ?_
    refine lv_iconst (v := 1) C.1 C.2.1 dX8_letHourGo_31 (by decide) ?_
    refine lv_iadd C.1 C.2.1 dX8_letHourGo_32 (x_gen (fun v4 => ?_))
    refine x_put (w' := [(qa, .inr (7, [.int v4, .int v2, .int qa_black, .int qa_so, .int qa_cracked, .int qa_behind, .int qa_allSighs, .int qa_seed, .ref qa_pictures, .ref qa_shown, .ref qa_sighed]))]) C hw iwX8 tyX8_ok nmX8 7 rfl 0 rfl 0 (by decide) kw237 rfl rfl rfl (Nat.le_of_ble_eq_true rfl) rfl dX8_letHourGo_33 (fun H locs hw => ?_)
    exact x_retvQ hQ B hw ⟨v4, v2, qa_black, rfl, (by omega)⟩ (Nat.le_of_ble_eq_true rfl) (Nat.le_of_ble_eq_true rfl) dX8_letHourGo_36
  · skip
    have c3 : v2.toInt = 0 := i_eqT (X := v2.toInt) (Y := 0) rfl rfl c3
    have bc3_v2 := i_bd v2
    refine lv_aload_n C.1 C.2.1 dX8_letHourGo_21 rfl (lv_at hl 0 rfl) ?_
    refine lv_iconst (v := 0) C.1 C.2.1 dX8_letHourGo_22 (by decide) ?_
    refine x_put (w' := [(qa, .inr (7, [.int qa_hour, .int v2, .int 0, .int qa_so, .int qa_cracked, .int qa_behind, .int qa_allSighs, .int qa_seed, .ref qa_pictures, .ref qa_shown, .ref qa_sighed]))]) C hw iwX8 tyX8_ok nmX8 7 rfl 0 rfl 2 (by decide) kw243 rfl (by first | rfl | decide) rfl (Nat.le_of_ble_eq_true rfl) rfl dX8_letHourGo_23 (fun H locs hw => ?_)
    refine lv_aload_n C.1 C.2.1 dX8_letHourGo_26 rfl (lv_at hl 0 rfl) ?_
    refine lv_dup C.1 C.2.1 dX8_letHourGo_27 rfl ?_
    refine x_get C hw iwX8 7 rfl 0 rfl 0 (by decide) kw237 rfl dX8_letHourGo_28 ?_
    refine lv_iconst (v := 1) C.1 C.2.1 dX8_letHourGo_31 (by decide) ?_
    refine lv_iadd C.1 C.2.1 dX8_letHourGo_32 (x_gen (fun v5 => ?_))
    refine x_put (w' := [(qa, .inr (7, [.int v5, .int v2, .int 0, .int qa_so, .int qa_cracked, .int qa_behind, .int qa_allSighs, .int qa_seed, .ref qa_pictures, .ref qa_shown, .ref qa_sighed]))]) C hw iwX8 tyX8_ok nmX8 7 rfl 0 rfl 0 (by decide) kw237 rfl rfl rfl (Nat.le_of_ble_eq_true rfl) rfl dX8_letHourGo_33 (fun H locs hw => ?_)
    exact x_retvQ hQ B hw ⟨v5, v2, 0, rfl, (by decide)⟩ (Nat.le_of_ble_eq_true rfl) (Nat.le_of_ble_eq_true rfl) dX8_letHourGo_36
theorem dX8_letHoursGo_0 : decode cX8_letHoursGo 0 = .ok (.iload_n 1, 1) := by decide +kernel
theorem dX8_letHoursGo_1 : decode cX8_letHoursGo 1 = .ok (.sipush 400, 3) := by decide +kernel
theorem dX8_letHoursGo_4 : decode cX8_letHoursGo 4 = .ok (.aload_n 0, 1) := by decide +kernel
theorem dX8_letHoursGo_5 : decode cX8_letHoursGo 5 = .ok (.getfield 21, 3) := by decide +kernel
theorem dX8_letHoursGo_8 : decode cX8_letHoursGo 8 = .ok (.isub, 1) := by decide +kernel
theorem dX8_letHoursGo_9 : decode cX8_letHoursGo 9 = .ok (.invokestatic 99, 3) := by decide +kernel
theorem dX8_letHoursGo_12 : decode cX8_letHoursGo 12 = .ok (.istore_n 2, 1) := by decide +kernel
theorem dX8_letHoursGo_13 : decode cX8_letHoursGo 13 = .ok (.iconst 0, 1) := by decide +kernel
theorem dX8_letHoursGo_14 : decode cX8_letHoursGo 14 = .ok (.istore_n 3, 1) := by decide +kernel
theorem dX8_letHoursGo_15 : decode cX8_letHoursGo 15 = .ok (.iload_n 3, 1) := by decide +kernel
theorem dX8_letHoursGo_16 : decode cX8_letHoursGo 16 = .ok (.iload_n 2, 1) := by decide +kernel
theorem dX8_letHoursGo_17 : decode cX8_letHoursGo 17 = .ok (.if_icmp .ge 13, 3) := by decide +kernel
theorem dX8_letHoursGo_20 : decode cX8_letHoursGo 20 = .ok (.aload_n 0, 1) := by decide +kernel
theorem dX8_letHoursGo_21 : decode cX8_letHoursGo 21 = .ok (.invokevirtual 104, 3) := by decide +kernel
theorem mwX8_letHourGo : MwV yX8_letHourGo cX8_letHourGo 1 none 0 := ⟨⟨kw783, kw8, by decide +kernel⟩, kw782, kS18⟩
theorem dX8_letHoursGo_24 : decode cX8_letHoursGo 24 = .ok (.iinc 3 1, 3) := by decide +kernel
theorem dX8_letHoursGo_27 : decode cX8_letHoursGo 27 = .ok (.goto (-12), 3) := by decide +kernel
theorem dX8_letHoursGo_30 : decode cX8_letHoursGo 30 = .ok (.iload_n 2, 1) := by decide +kernel
theorem dX8_letHoursGo_31 : decode cX8_letHoursGo 31 = .ok (.ireturn, 1) := by decide +kernel
set_option maxHeartbeats 4000000 in
set_option maxRecDepth 100000 in
theorem s_X8_letHoursGo {l : Launch} {G : Gc} (qa : Nat) (a1 : Int32) (qa_hour : Int32) (qa_heat : Int32) (qa_black : Int32) (qa_so : Int32) (qa_cracked : Int32) (qa_behind : Int32) (qa_allSighs : Int32) (qa_seed : Int32) (qa_pictures : Nat) (qa_shown : Nat) (qa_sighed : Nat) (hi_qa_black : 0 ≤ qa_black.toInt ∧ qa_black.toInt ≤ 1) : Ci l yX8_letHoursGo cX8_letHoursGo 4 (some .int) 2 0 0 G [.ref qa, .int a1] [(qa, .inr (7, [.int qa_hour, .int qa_heat, .int qa_black, .int qa_so, .int qa_cracked, .int qa_behind, .int qa_allSighs, .int qa_seed, .ref qa_pictures, .ref qa_shown, .ref qa_sighed]))] (fun (r9 : Int32) (u9 : va_W) => ∃ (x0_qa_hour : Int32) (x1_qa_heat : Int32) (x2_qa_black : Int32) (r_x : Int32), r9 = r_x ∧ u9 = [(qa, .inr (7, [.int x0_qa_hour, .int x1_qa_heat, .int x2_qa_black, .int qa_so, .int qa_cracked, .int qa_behind, .int qa_allSighs, .int qa_seed, .ref qa_pictures, .ref qa_shown, .ref qa_sighed]))] ∧ (0 ≤ x2_qa_black.toInt ∧ x2_qa_black.toInt ≤ 1)) := by
  refine Ci.ofQ (by decide) (Nat.le_of_ble_eq_true rfl) ?_
  intro p e s m below meth c ls A args Q hQ B hw hl
  have C : CallFix p m c cX8_letHoursGo 4 s args gw "LanternState$State" := B.1
  have hl : lv_has ls 4 [(0, .ref qa), (1, .int a1)] := hl
  refine lv_iload_n C.1 C.2.1 dX8_letHoursGo_0 rfl (lv_at hl 1 rfl) ?_
  refine lv_sipush (v := 400) C.1 C.2.1 dX8_letHoursGo_1 (by decide) ?_
  refine lv_aload_n C.1 C.2.1 dX8_letHoursGo_4 rfl (lv_at hl 0 rfl) ?_
  refine x_get C hw iwX8 7 rfl 0 rfl 0 (by decide) kw237 rfl dX8_letHoursGo_5 ?_
  refine lv_isub C.1 C.2.1 dX8_letHoursGo_8 (x_gen (fun v1 => ?_))
  refine va_mmin C.1 C.2.1 (C.2.2.1.trans hl.1.symm) C.2.2.2.1 (C.2.2.2.2 _ kw777) (C.2.2.2.2 _ kw778) (C.2.2.2.2 _ kw23) (C.2.2.2.2 _ kw779) (Nat.le_of_ble_eq_true rfl) (Nat.le_of_ble_eq_true rfl) (Nat.le_of_ble_eq_true rfl) (Nat.le_of_ble_eq_true rfl) dX8_letHoursGo_9 (x_gen (fun v2 => ?_))
  refine lv_istore_n (lv' := [(2, .int v2), (0, .ref qa), (1, .int a1)]) C.1 C.2.1 dX8_letHoursGo_12 rfl hl (by decide) rfl (fun ls hl => ?_)
  refine lv_iconst (v := 0) C.1 C.2.1 dX8_letHoursGo_13 (by decide) ?_
  refine lv_istore_n (lv' := [(3, .int 0), (2, .int v2), (0, .ref qa), (1, .int a1)]) C.1 C.2.1 dX8_letHoursGo_14 rfl hl (by decide) rfl (fun ls hl => ?_)
  have loopJ277 : ∀ (n9 : Nat) (j273 : Int32) (j274 : Int32) (j275 : Int32) (j276 : Int32), (2147483647 - j273.toInt).toNat < n9 → (0 ≤ j276.toInt ∧ j276.toInt ≤ 1) → (0 ≤ j273.toInt) → ∀ (H : Heap) (locs : List Loc) (ls : Array Slot), Wd G s A [(qa, .inr (7, [.int j274, .int j275, .int j276, .int qa_so, .int qa_cracked, .int qa_behind, .int qa_allSighs, .int qa_seed, .ref qa_pictures, .ref qa_shown, .ref qa_sighed]))] H locs → lv_has ls 4 [(3, .int j273), (2, .int v2), (0, .ref qa)] → W p l e (rmD 2 0 0) s m args below meth c H locs 0 0 Q (F0 m 15 ls []) := by
    intro n9
    induction n9 with
    | zero => intro j273 j274 j275 j276 h9; exact absurd h9 (Nat.not_lt_zero _)
    | succ n9 ihJ277 =>
      intro j273 j274 j275 j276 h9J277 hJ277_0 hJ277_1 H locs ls hw hl
      have hbj273 := i_bd j273
      refine lv_iload_n C.1 C.2.1 dX8_letHoursGo_15 rfl (lv_at hl 0 rfl) ?_
      refine lv_iload_n C.1 C.2.1 dX8_letHoursGo_16 rfl (lv_at hl 1 rfl) ?_
      refine lv_icmp_ge (tgt := 30) C.1 C.2.1 dX8_letHoursGo_17 (by decide) (fun c289 => ?_) (fun c289 => ?_)
      · skip
        have c289 : v2.toInt ≤ j273.toInt := i_leT (X := v2.toInt) (Y := j273.toInt) rfl rfl c289
        have bc289_j273 := i_bd j273
        have bc289_v2 := i_bd v2
        refine lv_iload_n C.1 C.2.1 dX8_letHoursGo_30 rfl (lv_at hl 1 rfl) ?_
        exact x_retiQ hQ B hw ⟨j274, j275, j276, v2, rfl, rfl, (by omega)⟩ (Nat.le_of_ble_eq_true rfl) (Nat.le_of_ble_eq_true rfl) dX8_letHoursGo_31
      · skip
        have c289 : j273.toInt < v2.toInt := i_leF (X := v2.toInt) (Y := j273.toInt) rfl rfl c289
        have bc289_j273 := i_bd j273
        have bc289_v2 := i_bd v2
        refine lv_aload_n C.1 C.2.1 dX8_letHoursGo_20 rfl (lv_at hl 2 rfl) ?_
        refine x_callvV (As := []) (rest := []) (wr := []) C hw (s_X8_letHourGo qa j274 j275 j276 qa_so qa_cracked qa_behind qa_allSighs qa_seed qa_pictures qa_shown qa_sighed (by omega)) mwX8_letHourGo kw780 [0] [] rfl rfl rfl rfl (by decide) 0 rfl rfl rfl rfl hl.1 rfl (Nat.le_of_ble_eq_true rfl) ⟨(Nat.le_of_ble_eq_true rfl), (Nat.le_of_ble_eq_true rfl)⟩ ⟨(Nat.le_of_ble_eq_true rfl), (Nat.le_of_ble_eq_true rfl)⟩ dX8_letHoursGo_21 (fun  u9 H locs hp9 hw => ?_)
        obtain ⟨x290, x291, x292, rfl, hf293⟩ := hp9
        have hw : Wd G s A [(qa, .inr (7, [.int x290, .int x291, .int x292, .int qa_so, .int qa_cracked, .int qa_behind, .int qa_allSighs, .int qa_seed, .ref qa_pictures, .ref qa_shown, .ref qa_sighed]))] H _ := hw
        obtain ⟨v294, ev294⟩ : ∃ z : Int32, j273 + 1 = z := ⟨_, rfl⟩
        have hv294 : v294.toInt = j273.toInt + 1 := by rw [← ev294]; exact i_add rfl rfl (by omega) (by omega)
        refine lv_iinc (v := v294) (lv' := [(3, .int v294), (2, .int v2), (0, .ref qa)]) C.1 C.2.1 dX8_letHoursGo_24 hl (k := 0) rfl ev294 (by decide) rfl (fun ls hl => ?_)
        refine lv_goto (tgt := 15) C.1 C.2.1 dX8_letHoursGo_27 (by decide) ?_
        exact ihJ277 v294 x290 x291 x292 (by omega) (by omega) (by omega) _ _ _ hw (lv_sub hl [0, 1, 2] rfl)
  exact loopJ277 _ 0 qa_hour qa_heat qa_black (Nat.lt_succ_self _) (by omega) (by decide) _ _ _ hw (lv_sub hl [0, 1, 2] rfl)
theorem dX8_drawOf_0 : decode cX8_drawOf 0 = .ok (.aload_n 0, 1) := by decide +kernel
theorem dX8_drawOf_1 : decode cX8_drawOf 1 = .ok (.aload_n 0, 1) := by decide +kernel
theorem dX8_drawOf_2 : decode cX8_drawOf 2 = .ok (.getfield 110, 3) := by decide +kernel
theorem dX8_drawOf_5 : decode cX8_drawOf 5 = .ok (.ldc 119, 2) := by decide +kernel
theorem dX8_drawOf_7 : decode cX8_drawOf 7 = .ok (.imul, 1) := by decide +kernel
theorem dX8_drawOf_8 : decode cX8_drawOf 8 = .ok (.sipush 12345, 3) := by decide +kernel
theorem dX8_drawOf_11 : decode cX8_drawOf 11 = .ok (.iadd, 1) := by decide +kernel
theorem dX8_drawOf_12 : decode cX8_drawOf 12 = .ok (.putfield 110, 3) := by decide +kernel
theorem dX8_drawOf_15 : decode cX8_drawOf 15 = .ok (.iload_n 1, 1) := by decide +kernel
theorem dX8_drawOf_16 : decode cX8_drawOf 16 = .ok (.ifCond .le 15, 3) := by decide +kernel
theorem dX8_drawOf_31 : decode cX8_drawOf 31 = .ok (.iconst 0, 1) := by decide +kernel
theorem dX8_drawOf_32 : decode cX8_drawOf 32 = .ok (.ireturn, 1) := by decide +kernel
theorem dX8_drawOf_19 : decode cX8_drawOf 19 = .ok (.aload_n 0, 1) := by decide +kernel
theorem dX8_drawOf_20 : decode cX8_drawOf 20 = .ok (.getfield 110, 3) := by decide +kernel
theorem dX8_drawOf_23 : decode cX8_drawOf 23 = .ok (.bipush 8, 2) := by decide +kernel
theorem dX8_drawOf_25 : decode cX8_drawOf 25 = .ok (.iushr, 1) := by decide +kernel
theorem dX8_drawOf_26 : decode cX8_drawOf 26 = .ok (.iload_n 1, 1) := by decide +kernel
theorem dX8_drawOf_27 : decode cX8_drawOf 27 = .ok (.irem, 1) := by decide +kernel
theorem dX8_drawOf_28 : decode cX8_drawOf 28 = .ok (.goto 4, 3) := by decide +kernel
set_option maxHeartbeats 4000000 in
set_option maxRecDepth 100000 in
theorem s_X8_drawOf {l : Launch} {G : Gc} (qa : Nat) (a1 : Int32) (qa_hour : Int32) (qa_heat : Int32) (qa_black : Int32) (qa_so : Int32) (qa_cracked : Int32) (qa_behind : Int32) (qa_allSighs : Int32) (qa_seed : Int32) (qa_pictures : Nat) (qa_shown : Nat) (qa_sighed : Nat)  : Ci l yX8_drawOf cX8_drawOf 2 (some .int) 0 0 0 G [.ref qa, .int a1] [(qa, .inr (7, [.int qa_hour, .int qa_heat, .int qa_black, .int qa_so, .int qa_cracked, .int qa_behind, .int qa_allSighs, .int qa_seed, .ref qa_pictures, .ref qa_shown, .ref qa_sighed]))] (fun (r9 : Int32) (u9 : va_W) => ∃ (x0_qa_seed : Int32) (r_x : Int32), r9 = r_x ∧ u9 = [(qa, .inr (7, [.int qa_hour, .int qa_heat, .int qa_black, .int qa_so, .int qa_cracked, .int qa_behind, .int qa_allSighs, .int x0_qa_seed, .ref qa_pictures, .ref qa_shown, .ref qa_sighed]))] ∧ (0 ≤ r_x.toInt ∧ r_x.toInt ≤ 16777215) ∧ (a1.toInt ≤ 6 → r_x.toInt ≤ 5)) := by
  refine Ci.ofQ (by decide) (Nat.le_of_ble_eq_true rfl) ?_
  intro p e s m below meth c ls A args Q hQ B hw hl
  have C : CallFix p m c cX8_drawOf 2 s args gw "LanternState$State" := B.1
  have hl : lv_has ls 2 [(0, .ref qa), (1, .int a1)] := hl
  refine lv_aload_n C.1 C.2.1 dX8_drawOf_0 rfl (lv_at hl 0 rfl) ?_
  refine lv_aload_n C.1 C.2.1 dX8_drawOf_1 rfl (lv_at hl 0 rfl) ?_
  refine x_get C hw iwX8 7 rfl 0 rfl 7 (by decide) kw262 rfl dX8_drawOf_2 ?_
  refine lv_ldc (v := 1103515245) C.1 C.2.1 C.2.2.2.1 (C.2.2.2.2 _ kw946) dX8_drawOf_5 ?_
  refine lv_imul C.1 C.2.1 dX8_drawOf_7 (x_gen (fun v1 => ?_))
  refine lv_sipush (v := 12345) C.1 C.2.1 dX8_drawOf_8 (by decide) ?_
  refine lv_iadd C.1 C.2.1 dX8_drawOf_11 (x_gen (fun v2 => ?_))
  refine x_put (w' := [(qa, .inr (7, [.int qa_hour, .int qa_heat, .int qa_black, .int qa_so, .int qa_cracked, .int qa_behind, .int qa_allSighs, .int v2, .ref qa_pictures, .ref qa_shown, .ref qa_sighed]))]) C hw iwX8 tyX8_ok nmX8 7 rfl 0 rfl 7 (by decide) kw262 rfl rfl rfl (Nat.le_of_ble_eq_true rfl) rfl dX8_drawOf_12 (fun H locs hw => ?_)
  refine lv_iload_n C.1 C.2.1 dX8_drawOf_15 rfl (lv_at hl 1 rfl) ?_
  refine lv_if_le (tgt := 31) C.1 C.2.1 dX8_drawOf_16 (by decide) (fun c3 => ?_) (fun c3 => ?_)
  · skip
    have c3 : a1.toInt ≤ 0 := i_leT (X := a1.toInt) (Y := 0) rfl rfl c3
    have bc3_a1 := i_bd a1
    refine lv_iconst (v := 0) C.1 C.2.1 dX8_drawOf_31 (by decide) ?_
    exact x_retiQ hQ B hw ⟨v2, 0, rfl, rfl, (by decide), (by have e0 : (0 : Int32).toInt = 0 := rfl; omega)⟩ (Nat.le_of_ble_eq_true rfl) (Nat.le_of_ble_eq_true rfl) dX8_drawOf_32
  · skip
    have c3 : 0 < a1.toInt := i_leF (X := a1.toInt) (Y := 0) rfl rfl c3
    have bc3_a1 := i_bd a1
    refine lv_aload_n C.1 C.2.1 dX8_drawOf_19 rfl (lv_at hl 0 rfl) ?_
    refine x_get C hw iwX8 7 rfl 0 rfl 7 (by decide) kw262 rfl dX8_drawOf_20 ?_
    refine lv_bipush (v := 8) C.1 C.2.1 dX8_drawOf_23 (by decide) ?_
    refine lv_iushr (v := ((v2.toUInt32 >>> ((8 : Int32).toUInt32 &&& Int32.toUInt32 31)).toInt32)) C.1 C.2.1 dX8_drawOf_25 rfl (x_genP (fun z : Int32 => 0 ≤ z.toInt ∧ z.toInt ≤ 16777215) (i_ushr8 _) (fun v4 hv4 => ?_))
    refine lv_iload_n C.1 C.2.1 dX8_drawOf_26 rfl (lv_at hl 1 rfl) ?_
    refine lv_irem C.1 C.2.1 dX8_drawOf_27 (i_ne0 (by omega)) (x_genP (fun z : Int32 => (0 ≤ z.toInt ∧ z.toInt < a1.toInt) ∧ z.toInt ≤ v4.toInt) (i_rem (X := v4.toInt) (Y := a1.toInt) rfl rfl (by omega) (by omega)) (fun v5 hv5 => ?_))
    refine lv_goto (tgt := 32) C.1 C.2.1 dX8_drawOf_28 (by decide) ?_
    exact x_retiQ hQ B hw ⟨v2, v5, rfl, rfl, (by omega), (by omega)⟩ (Nat.le_of_ble_eq_true rfl) (Nat.le_of_ble_eq_true rfl) dX8_drawOf_32
theorem dX8_drawHours_0 : decode cX8_drawHours 0 = .ok (.aload_n 0, 1) := by decide +kernel
theorem dX8_drawHours_1 : decode cX8_drawHours 1 = .ok (.iload_n 2, 1) := by decide +kernel
theorem dX8_drawHours_2 : decode cX8_drawHours 2 = .ok (.putfield 110, 3) := by decide +kernel
theorem dX8_drawHours_5 : decode cX8_drawHours 5 = .ok (.iload_n 3, 1) := by decide +kernel
theorem dX8_drawHours_6 : decode cX8_drawHours 6 = .ok (.sipush 400, 3) := by decide +kernel
theorem dX8_drawHours_9 : decode cX8_drawHours 9 = .ok (.aload_n 0, 1) := by decide +kernel
theorem dX8_drawHours_10 : decode cX8_drawHours 10 = .ok (.getfield 21, 3) := by decide +kernel
theorem dX8_drawHours_13 : decode cX8_drawHours 13 = .ok (.isub, 1) := by decide +kernel
theorem dX8_drawHours_14 : decode cX8_drawHours 14 = .ok (.invokestatic 99, 3) := by decide +kernel
theorem dX8_drawHours_17 : decode cX8_drawHours 17 = .ok (.istore 4, 2) := by decide +kernel
theorem dX8_drawHours_19 : decode cX8_drawHours 19 = .ok (.iconst 0, 1) := by decide +kernel
theorem dX8_drawHours_20 : decode cX8_drawHours 20 = .ok (.istore 5, 2) := by decide +kernel
theorem dX8_drawHours_22 : decode cX8_drawHours 22 = .ok (.iload 5, 2) := by decide +kernel
theorem dX8_drawHours_24 : decode cX8_drawHours 24 = .ok (.iload 4, 2) := by decide +kernel
theorem dX8_drawHours_26 : decode cX8_drawHours 26 = .ok (.if_icmp .ge 80, 3) := by decide +kernel
theorem dX8_drawHours_29 : decode cX8_drawHours 29 = .ok (.aload_n 0, 1) := by decide +kernel
theorem dX8_drawHours_30 : decode cX8_drawHours 30 = .ok (.aload_n 1, 1) := by decide +kernel
theorem dX8_drawHours_31 : decode cX8_drawHours 31 = .ok (.getfield 68, 3) := by decide +kernel
theorem dX8_drawHours_34 : decode cX8_drawHours 34 = .ok (.invokevirtual 113, 3) := by decide +kernel
theorem mwX8_drawOf : MwV yX8_drawOf cX8_drawOf 2 (some .int) 1 := ⟨⟨kw945, kw8, by decide +kernel⟩, kw944, kS26⟩
theorem dX8_drawHours_37 : decode cX8_drawHours 37 = .ok (.istore 6, 2) := by decide +kernel
theorem dX8_drawHours_39 : decode cX8_drawHours 39 = .ok (.aload_n 0, 1) := by decide +kernel
theorem dX8_drawHours_40 : decode cX8_drawHours 40 = .ok (.iconst 4, 1) := by decide +kernel
theorem dX8_drawHours_41 : decode cX8_drawHours 41 = .ok (.invokevirtual 113, 3) := by decide +kernel
theorem dX8_drawHours_44 : decode cX8_drawHours 44 = .ok (.istore 7, 2) := by decide +kernel
theorem dX8_drawHours_46 : decode cX8_drawHours 46 = .ok (.aload_n 0, 1) := by decide +kernel
theorem dX8_drawHours_47 : decode cX8_drawHours 47 = .ok (.aload_n 1, 1) := by decide +kernel
theorem dX8_drawHours_48 : decode cX8_drawHours 48 = .ok (.iload 6, 2) := by decide +kernel
theorem dX8_drawHours_50 : decode cX8_drawHours 50 = .ok (.iload 7, 2) := by decide +kernel
theorem dX8_drawHours_52 : decode cX8_drawHours 52 = .ok (.invokevirtual 116, 3) := by decide +kernel
theorem mwX8_showOne : MwV yX8_showOne cX8_showOne 5 (some .int) 3 := ⟨⟨kw698, kw8, by decide +kernel⟩, kw696, kw697⟩
theorem dX8_drawHours_55 : decode cX8_drawHours 55 = .ok (.pop, 1) := by decide +kernel
theorem dX8_drawHours_56 : decode cX8_drawHours 56 = .ok (.iconst 0, 1) := by decide +kernel
theorem dX8_drawHours_57 : decode cX8_drawHours 57 = .ok (.istore 8, 2) := by decide +kernel
theorem dX8_drawHours_59 : decode cX8_drawHours 59 = .ok (.iload 8, 2) := by decide +kernel
theorem dX8_drawHours_61 : decode cX8_drawHours 61 = .ok (.aload_n 1, 1) := by decide +kernel
theorem dX8_drawHours_62 : decode cX8_drawHours 62 = .ok (.getfield 86, 3) := by decide +kernel
theorem dX8_drawHours_65 : decode cX8_drawHours 65 = .ok (.if_icmp .ge 31, 3) := by decide +kernel
theorem dX8_drawHours_68 : decode cX8_drawHours 68 = .ok (.aload_n 0, 1) := by decide +kernel
theorem dX8_drawHours_69 : decode cX8_drawHours 69 = .ok (.bipush 12, 2) := by decide +kernel
theorem dX8_drawHours_71 : decode cX8_drawHours 71 = .ok (.invokevirtual 113, 3) := by decide +kernel
theorem dX8_drawHours_74 : decode cX8_drawHours 74 = .ok (.ifCond .ne 16, 3) := by decide +kernel
theorem dX8_drawHours_77 : decode cX8_drawHours 77 = .ok (.aload_n 0, 1) := by decide +kernel
theorem dX8_drawHours_78 : decode cX8_drawHours 78 = .ok (.dup, 1) := by decide +kernel
theorem dX8_drawHours_79 : decode cX8_drawHours 79 = .ok (.getfield 43, 3) := by decide +kernel
theorem dX8_drawHours_82 : decode cX8_drawHours 82 = .ok (.iconst 1, 1) := by decide +kernel
theorem dX8_drawHours_83 : decode cX8_drawHours 83 = .ok (.iload 8, 2) := by decide +kernel
theorem dX8_drawHours_85 : decode cX8_drawHours 85 = .ok (.ishl, 1) := by decide +kernel
theorem dX8_drawHours_86 : decode cX8_drawHours 86 = .ok (.ixor, 1) := by decide +kernel
theorem dX8_drawHours_87 : decode cX8_drawHours 87 = .ok (.putfield 43, 3) := by decide +kernel
theorem dX8_drawHours_90 : decode cX8_drawHours 90 = .ok (.iinc 8 1, 3) := by decide +kernel
theorem dX8_drawHours_93 : decode cX8_drawHours 93 = .ok (.goto (-34), 3) := by decide +kernel
theorem dX8_drawHours_96 : decode cX8_drawHours 96 = .ok (.aload_n 0, 1) := by decide +kernel
theorem dX8_drawHours_97 : decode cX8_drawHours 97 = .ok (.invokevirtual 104, 3) := by decide +kernel
theorem dX8_drawHours_100 : decode cX8_drawHours 100 = .ok (.iinc 5 1, 3) := by decide +kernel
theorem dX8_drawHours_103 : decode cX8_drawHours 103 = .ok (.goto (-81), 3) := by decide +kernel
theorem dX8_drawHours_106 : decode cX8_drawHours 106 = .ok (.iload 4, 2) := by decide +kernel
theorem dX8_drawHours_108 : decode cX8_drawHours 108 = .ok (.ireturn, 1) := by decide +kernel
set_option maxHeartbeats 4000000 in
set_option maxRecDepth 100000 in
theorem s_X8_drawHours {l : Launch} {G : Gc} (qa : Nat) (qs : Nat) (a1 : Int32) (a2 : Int32) (qa_hour : Int32) (qa_heat : Int32) (qa_black : Int32) (qa_so : Int32) (qa_cracked : Int32) (qa_behind : Int32) (qa_allSighs : Int32) (qa_seed : Int32) (qa_pictures : Nat) (qa_shown : Nat) (qa_sighed : Nat) (qa_pictures_c : Nat → Int32) (qa_shown_c : Nat → Int32) (qa_sighed_c : Nat → Int32) (qs_slides : Int32) (qs_hearers : Int32) (qs_nears : Int32) (qs_lines : Int32) (qs_pass : Int32) (qs_spread : Int32) (qs_lamp : Int32) (qs_behind : Int32) (qs_settingsTold : Int32) (qs_slideNames : Nat) (qs_pictures : Nat) (qs_heats : Nat) (qs_after : Nat) (qs_hearerNames : Nat) (qs_needs : Nat) (qs_likes : Nat) (qs_hates : Nat) (qs_near : Nat) (qs_heats_c : Nat → Int32) (qs_after_c : Nat → Int32) (qs_needs_c : Nat → Int32) (qs_likes_c : Nat → Int32) (qs_hates_c : Nat → Int32) (qs_near_c : Nat → Int32) (hi_qa_black : 0 ≤ qa_black.toInt ∧ qa_black.toInt ≤ 1) (hi_qs_slides : 0 ≤ qs_slides.toInt ∧ qs_slides.toInt ≤ 6) (hi_qs_hearers : 0 ≤ qs_hearers.toInt ∧ qs_hearers.toInt ≤ 8) (hf_qs_after_c : inA 6 (-1) 5 qs_after_c) : Ci l yX8_drawHours cX8_drawHours 9 (some .int) 5 0 0 G [.ref qa, .ref qs, .int a1, .int a2] [(qa, .inr (7, [.int qa_hour, .int qa_heat, .int qa_black, .int qa_so, .int qa_cracked, .int qa_behind, .int qa_allSighs, .int qa_seed, .ref qa_pictures, .ref qa_shown, .ref qa_sighed])), (qa_pictures, eI G 6 qa_pictures_c), (qa_shown, eI G 6 qa_shown_c), (qa_sighed, eI G 8 qa_sighed_c), (qs, .inr (4, [.int qs_slides, .int qs_hearers, .int qs_nears, .int qs_lines, .int qs_pass, .int qs_spread, .int qs_lamp, .int qs_behind, .int qs_settingsTold, .ref qs_slideNames, .ref qs_pictures, .ref qs_heats, .ref qs_after, .ref qs_hearerNames, .ref qs_needs, .ref qs_likes, .ref qs_hates, .ref qs_near])), (qs_heats, eI G 6 qs_heats_c), (qs_after, eI G 6 qs_after_c), (qs_needs, eI G 8 qs_needs_c), (qs_likes, eI G 8 qs_likes_c), (qs_hates, eI G 8 qs_hates_c), (qs_near, eI G 8 qs_near_c)] (fun (r9 : Int32) (u9 : va_W) => ∃ (x0_qa_hour : Int32) (x1_qa_heat : Int32) (x2_qa_black : Int32) (x3_qa_so : Int32) (x4_qa_cracked : Int32) (x5_qa_behind : Int32) (x6_qa_allSighs : Int32) (x7_qa_seed : Int32) (x8_qa_shown_c : Nat → Int32) (x9_qa_sighed_c : Nat → Int32) (r_x : Int32), r9 = r_x ∧ u9 = [(qa, .inr (7, [.int x0_qa_hour, .int x1_qa_heat, .int x2_qa_black, .int x3_qa_so, .int x4_qa_cracked, .int x5_qa_behind, .int x6_qa_allSighs, .int x7_qa_seed, .ref qa_pictures, .ref qa_shown, .ref qa_sighed])), (qa_pictures, eI G 6 qa_pictures_c), (qa_shown, eI G 6 x8_qa_shown_c), (qa_sighed, eI G 8 x9_qa_sighed_c), (qs, .inr (4, [.int qs_slides, .int qs_hearers, .int qs_nears, .int qs_lines, .int qs_pass, .int qs_spread, .int qs_lamp, .int qs_behind, .int qs_settingsTold, .ref qs_slideNames, .ref qs_pictures, .ref qs_heats, .ref qs_after, .ref qs_hearerNames, .ref qs_needs, .ref qs_likes, .ref qs_hates, .ref qs_near])), (qs_heats, eI G 6 qs_heats_c), (qs_after, eI G 6 qs_after_c), (qs_needs, eI G 8 qs_needs_c), (qs_likes, eI G 8 qs_likes_c), (qs_hates, eI G 8 qs_hates_c), (qs_near, eI G 8 qs_near_c)] ∧ (0 ≤ x2_qa_black.toInt ∧ x2_qa_black.toInt ≤ 1)) := by
  refine Ci.ofQ (by decide) (Nat.le_of_ble_eq_true rfl) ?_
  intro p e s m below meth c ls A args Q hQ B hw hl
  have C : CallFix p m c cX8_drawHours 9 s args gw "LanternState$State" := B.1
  have hl : lv_has ls 9 [(0, .ref qa), (1, .ref qs), (2, .int a1), (3, .int a2)] := hl
  refine lv_aload_n C.1 C.2.1 dX8_drawHours_0 rfl (lv_at hl 0 rfl) ?_
  refine lv_iload_n C.1 C.2.1 dX8_drawHours_1 rfl (lv_at hl 2 rfl) ?_
  refine x_put (w' := [(qa, .inr (7, [.int qa_hour, .int qa_heat, .int qa_black, .int qa_so, .int qa_cracked, .int qa_behind, .int qa_allSighs, .int a1, .ref qa_pictures, .ref qa_shown, .ref qa_sighed])), (qa_pictures, eI G 6 qa_pictures_c), (qa_shown, eI G 6 qa_shown_c), (qa_sighed, eI G 8 qa_sighed_c), (qs, .inr (4, [.int qs_slides, .int qs_hearers, .int qs_nears, .int qs_lines, .int qs_pass, .int qs_spread, .int qs_lamp, .int qs_behind, .int qs_settingsTold, .ref qs_slideNames, .ref qs_pictures, .ref qs_heats, .ref qs_after, .ref qs_hearerNames, .ref qs_needs, .ref qs_likes, .ref qs_hates, .ref qs_near])), (qs_heats, eI G 6 qs_heats_c), (qs_after, eI G 6 qs_after_c), (qs_needs, eI G 8 qs_needs_c), (qs_likes, eI G 8 qs_likes_c), (qs_hates, eI G 8 qs_hates_c), (qs_near, eI G 8 qs_near_c)]) C hw iwX8 tyX8_ok nmX8 7 rfl 0 rfl 7 (by decide) kw262 rfl rfl rfl (Nat.le_of_ble_eq_true rfl) rfl dX8_drawHours_2 (fun H locs hw => ?_)
  refine lv_iload_n C.1 C.2.1 dX8_drawHours_5 rfl (lv_at hl 3 rfl) ?_
  refine lv_sipush (v := 400) C.1 C.2.1 dX8_drawHours_6 (by decide) ?_
  refine lv_aload_n C.1 C.2.1 dX8_drawHours_9 rfl (lv_at hl 0 rfl) ?_
  refine x_get C hw iwX8 7 rfl 0 rfl 0 (by decide) kw237 rfl dX8_drawHours_10 ?_
  refine lv_isub C.1 C.2.1 dX8_drawHours_13 (x_gen (fun v1 => ?_))
  refine va_mmin C.1 C.2.1 (C.2.2.1.trans hl.1.symm) C.2.2.2.1 (C.2.2.2.2 _ kw777) (C.2.2.2.2 _ kw778) (C.2.2.2.2 _ kw23) (C.2.2.2.2 _ kw779) (Nat.le_of_ble_eq_true rfl) (Nat.le_of_ble_eq_true rfl) (Nat.le_of_ble_eq_true rfl) (Nat.le_of_ble_eq_true rfl) dX8_drawHours_14 (x_gen (fun v2 => ?_))
  refine lv_istore (lv' := [(4, .int v2), (0, .ref qa), (1, .ref qs), (2, .int a1), (3, .int a2)]) C.1 C.2.1 dX8_drawHours_17 hl (by decide) rfl (fun ls hl => ?_)
  refine lv_iconst (v := 0) C.1 C.2.1 dX8_drawHours_19 (by decide) ?_
  refine lv_istore (lv' := [(5, .int 0), (4, .int v2), (0, .ref qa), (1, .ref qs), (2, .int a1), (3, .int a2)]) C.1 C.2.1 dX8_drawHours_20 hl (by decide) rfl (fun ls hl => ?_)
  have loopJ4852 : ∀ (n9 : Nat) (j4841 : Int32) (j4842 : Int32) (j4843 : Int32) (j4844 : Int32) (j4845 : Int32) (j4846 : Int32) (j4847 : Int32) (j4848 : Int32) (j4849 : Int32) (j4850 : Nat → Int32) (j4851 : Nat → Int32), (2147483647 - j4841.toInt).toNat < n9 → (0 ≤ j4844.toInt ∧ j4844.toInt ≤ 1) → (0 ≤ j4841.toInt) → ∀ (H : Heap) (locs : List Loc) (ls : Array Slot), Wd G s A [(qa, .inr (7, [.int j4842, .int j4843, .int j4844, .int j4845, .int j4846, .int j4847, .int j4848, .int j4849, .ref qa_pictures, .ref qa_shown, .ref qa_sighed])), (qa_pictures, eI G 6 qa_pictures_c), (qa_shown, eI G 6 j4850), (qa_sighed, eI G 8 j4851), (qs, .inr (4, [.int qs_slides, .int qs_hearers, .int qs_nears, .int qs_lines, .int qs_pass, .int qs_spread, .int qs_lamp, .int qs_behind, .int qs_settingsTold, .ref qs_slideNames, .ref qs_pictures, .ref qs_heats, .ref qs_after, .ref qs_hearerNames, .ref qs_needs, .ref qs_likes, .ref qs_hates, .ref qs_near])), (qs_heats, eI G 6 qs_heats_c), (qs_after, eI G 6 qs_after_c), (qs_needs, eI G 8 qs_needs_c), (qs_likes, eI G 8 qs_likes_c), (qs_hates, eI G 8 qs_hates_c), (qs_near, eI G 8 qs_near_c)] H locs → lv_has ls 9 [(5, .int j4841), (4, .int v2), (0, .ref qa), (1, .ref qs)] → W p l e (rmD 5 0 0) s m args below meth c H locs 0 0 Q (F0 m 22 ls []) := by
    intro n9
    induction n9 with
    | zero => intro j4841 j4842 j4843 j4844 j4845 j4846 j4847 j4848 j4849 j4850 j4851 h9; exact absurd h9 (Nat.not_lt_zero _)
    | succ n9 ihJ4852 =>
      intro j4841 j4842 j4843 j4844 j4845 j4846 j4847 j4848 j4849 j4850 j4851 h9J4852 hJ4852_0 hJ4852_1 H locs ls hw hl
      have hbj4841 := i_bd j4841
      refine lv_iload C.1 C.2.1 dX8_drawHours_22 (lv_at hl 0 rfl) ?_
      refine lv_iload C.1 C.2.1 dX8_drawHours_24 (lv_at hl 1 rfl) ?_
      refine lv_icmp_ge (tgt := 106) C.1 C.2.1 dX8_drawHours_26 (by decide) (fun c5047 => ?_) (fun c5047 => ?_)
      · skip
        have c5047 : v2.toInt ≤ j4841.toInt := i_leT (X := v2.toInt) (Y := j4841.toInt) rfl rfl c5047
        have bc5047_j4841 := i_bd j4841
        have bc5047_v2 := i_bd v2
        refine lv_iload C.1 C.2.1 dX8_drawHours_106 (lv_at hl 1 rfl) ?_
        exact x_retiQ hQ B hw ⟨j4842, j4843, j4844, j4845, j4846, j4847, j4848, j4849, j4850, j4851, v2, rfl, rfl, (by omega)⟩ (Nat.le_of_ble_eq_true rfl) (Nat.le_of_ble_eq_true rfl) dX8_drawHours_108
      · skip
        have c5047 : j4841.toInt < v2.toInt := i_leF (X := v2.toInt) (Y := j4841.toInt) rfl rfl c5047
        have bc5047_j4841 := i_bd j4841
        have bc5047_v2 := i_bd v2
        refine lv_aload_n C.1 C.2.1 dX8_drawHours_29 rfl (lv_at hl 2 rfl) ?_
        refine lv_aload_n C.1 C.2.1 dX8_drawHours_30 rfl (lv_at hl 3 rfl) ?_
        refine x_get C hw iwX5 4 rfl 4 rfl 0 (by decide) kw149 rfl dX8_drawHours_31 ?_
        refine x_calliV (As := [.int qs_slides]) (rest := []) (wr := [(qa_pictures, eI G 6 qa_pictures_c), (qa_shown, eI G 6 j4850), (qa_sighed, eI G 8 j4851), (qs, .inr (4, [.int qs_slides, .int qs_hearers, .int qs_nears, .int qs_lines, .int qs_pass, .int qs_spread, .int qs_lamp, .int qs_behind, .int qs_settingsTold, .ref qs_slideNames, .ref qs_pictures, .ref qs_heats, .ref qs_after, .ref qs_hearerNames, .ref qs_needs, .ref qs_likes, .ref qs_hates, .ref qs_near])), (qs_heats, eI G 6 qs_heats_c), (qs_after, eI G 6 qs_after_c), (qs_needs, eI G 8 qs_needs_c), (qs_likes, eI G 8 qs_likes_c), (qs_hates, eI G 8 qs_hates_c), (qs_near, eI G 8 qs_near_c)]) C hw (s_X8_drawOf qa qs_slides j4842 j4843 j4844 j4845 j4846 j4847 j4848 j4849 qa_pictures qa_shown qa_sighed) mwX8_drawOf kw942 [0] [1, 2, 3, 4, 5, 6, 7, 8, 9, 10] rfl rfl rfl rfl (by decide) 0 rfl rfl rfl rfl hl.1 rfl (Nat.le_of_ble_eq_true rfl) ⟨(Nat.le_of_ble_eq_true rfl), (Nat.le_of_ble_eq_true rfl)⟩ ⟨(Nat.le_of_ble_eq_true rfl), (Nat.le_of_ble_eq_true rfl)⟩ dX8_drawHours_34 (fun r5048 u9 H locs hp9 hw => ?_)
        obtain ⟨x5049, x5050, rfl, rfl, hf5051, hf5052⟩ := hp9
        have hw : Wd G s A [(qa_pictures, eI G 6 qa_pictures_c), (qa_shown, eI G 6 j4850), (qa_sighed, eI G 8 j4851), (qs, .inr (4, [.int qs_slides, .int qs_hearers, .int qs_nears, .int qs_lines, .int qs_pass, .int qs_spread, .int qs_lamp, .int qs_behind, .int qs_settingsTold, .ref qs_slideNames, .ref qs_pictures, .ref qs_heats, .ref qs_after, .ref qs_hearerNames, .ref qs_needs, .ref qs_likes, .ref qs_hates, .ref qs_near])), (qs_heats, eI G 6 qs_heats_c), (qs_after, eI G 6 qs_after_c), (qs_needs, eI G 8 qs_needs_c), (qs_likes, eI G 8 qs_likes_c), (qs_hates, eI G 8 qs_hates_c), (qs_near, eI G 8 qs_near_c), (qa, .inr (7, [.int j4842, .int j4843, .int j4844, .int j4845, .int j4846, .int j4847, .int j4848, .int x5049, .ref qa_pictures, .ref qa_shown, .ref qa_sighed]))] H _ := hw
        refine lv_istore (lv' := [(6, .int r5048), (5, .int j4841), (4, .int v2), (0, .ref qa), (1, .ref qs)]) C.1 C.2.1 dX8_drawHours_37 hl (by decide) rfl (fun ls hl => ?_)
        refine lv_aload_n C.1 C.2.1 dX8_drawHours_39 rfl (lv_at hl 3 rfl) ?_
        refine lv_iconst (v := 4) C.1 C.2.1 dX8_drawHours_40 (by decide) ?_
        refine x_calliV (As := [.int 4]) (rest := []) (wr := [(qa_pictures, eI G 6 qa_pictures_c), (qa_shown, eI G 6 j4850), (qa_sighed, eI G 8 j4851), (qs, .inr (4, [.int qs_slides, .int qs_hearers, .int qs_nears, .int qs_lines, .int qs_pass, .int qs_spread, .int qs_lamp, .int qs_behind, .int qs_settingsTold, .ref qs_slideNames, .ref qs_pictures, .ref qs_heats, .ref qs_after, .ref qs_hearerNames, .ref qs_needs, .ref qs_likes, .ref qs_hates, .ref qs_near])), (qs_heats, eI G 6 qs_heats_c), (qs_after, eI G 6 qs_after_c), (qs_needs, eI G 8 qs_needs_c), (qs_likes, eI G 8 qs_likes_c), (qs_hates, eI G 8 qs_hates_c), (qs_near, eI G 8 qs_near_c)]) C hw (s_X8_drawOf qa 4 j4842 j4843 j4844 j4845 j4846 j4847 j4848 x5049 qa_pictures qa_shown qa_sighed) mwX8_drawOf kw942 [10] [0, 1, 2, 3, 4, 5, 6, 7, 8, 9] rfl rfl rfl rfl (by decide) 0 rfl rfl rfl rfl hl.1 rfl (Nat.le_of_ble_eq_true rfl) ⟨(Nat.le_of_ble_eq_true rfl), (Nat.le_of_ble_eq_true rfl)⟩ ⟨(Nat.le_of_ble_eq_true rfl), (Nat.le_of_ble_eq_true rfl)⟩ dX8_drawHours_41 (fun r5053 u9 H locs hp9 hw => ?_)
        obtain ⟨x5054, x5055, rfl, rfl, hf5056, hf5057⟩ := hp9
        have hw : Wd G s A [(qa_pictures, eI G 6 qa_pictures_c), (qa_shown, eI G 6 j4850), (qa_sighed, eI G 8 j4851), (qs, .inr (4, [.int qs_slides, .int qs_hearers, .int qs_nears, .int qs_lines, .int qs_pass, .int qs_spread, .int qs_lamp, .int qs_behind, .int qs_settingsTold, .ref qs_slideNames, .ref qs_pictures, .ref qs_heats, .ref qs_after, .ref qs_hearerNames, .ref qs_needs, .ref qs_likes, .ref qs_hates, .ref qs_near])), (qs_heats, eI G 6 qs_heats_c), (qs_after, eI G 6 qs_after_c), (qs_needs, eI G 8 qs_needs_c), (qs_likes, eI G 8 qs_likes_c), (qs_hates, eI G 8 qs_hates_c), (qs_near, eI G 8 qs_near_c), (qa, .inr (7, [.int j4842, .int j4843, .int j4844, .int j4845, .int j4846, .int j4847, .int j4848, .int x5054, .ref qa_pictures, .ref qa_shown, .ref qa_sighed]))] H _ := hw
        have hf5057 : 4 ≤ 6 → r5053.toInt ≤ 5 := by first | exact hf5057 | (have e0 : (4 : Int32).toInt = 4 := rfl; omega)
        refine lv_istore (lv' := [(7, .int r5053), (6, .int r5048), (5, .int j4841), (4, .int v2), (0, .ref qa), (1, .ref qs)]) C.1 C.2.1 dX8_drawHours_44 hl (by decide) rfl (fun ls hl => ?_)
        refine lv_aload_n C.1 C.2.1 dX8_drawHours_46 rfl (lv_at hl 4 rfl) ?_
        refine lv_aload_n C.1 C.2.1 dX8_drawHours_47 rfl (lv_at hl 5 rfl) ?_
        refine lv_iload C.1 C.2.1 dX8_drawHours_48 (lv_at hl 1 rfl) ?_
        refine lv_iload C.1 C.2.1 dX8_drawHours_50 (lv_at hl 0 rfl) ?_
        refine x_calliV (As := [.ref qs, .int r5048, .int r5053]) (rest := []) (wr := []) C hw (s_X8_showOne qa qs r5048 r5053 j4842 j4843 j4844 j4845 j4846 j4847 j4848 x5054 qa_pictures qa_shown qa_sighed qa_pictures_c j4850 j4851 qs_slides qs_hearers qs_nears qs_lines qs_pass qs_spread qs_lamp qs_behind qs_settingsTold qs_slideNames qs_pictures qs_heats qs_after qs_hearerNames qs_needs qs_likes qs_hates qs_near qs_heats_c qs_after_c qs_needs_c qs_likes_c qs_hates_c qs_near_c (by omega) (by omega) (by omega) (by omega) hf_qs_after_c) mwX8_showOne kw947 [10, 0, 1, 2, 3, 4, 5, 6, 7, 8, 9] [] rfl rfl rfl rfl (by decide) 0 rfl rfl rfl rfl hl.1 rfl (Nat.le_of_ble_eq_true rfl) ⟨(Nat.le_of_ble_eq_true rfl), (Nat.le_of_ble_eq_true rfl)⟩ ⟨(Nat.le_of_ble_eq_true rfl), (Nat.le_of_ble_eq_true rfl)⟩ dX8_drawHours_52 (fun r5058 u9 H locs hp9 hw => ?_)
        obtain ⟨x5059, x5060, x5061, x5062, x5063, x5064, x5065, x5066, rfl, rfl, hf5067, hf5068⟩ := hp9
        have hw : Wd G s A [(qa, .inr (7, [.int j4842, .int x5059, .int x5060, .int x5061, .int x5062, .int j4847, .int x5063, .int x5054, .ref qa_pictures, .ref qa_shown, .ref qa_sighed])), (qa_pictures, eI G 6 qa_pictures_c), (qa_shown, eI G 6 x5064), (qa_sighed, eI G 8 x5065), (qs, .inr (4, [.int qs_slides, .int qs_hearers, .int qs_nears, .int qs_lines, .int qs_pass, .int qs_spread, .int qs_lamp, .int qs_behind, .int qs_settingsTold, .ref qs_slideNames, .ref qs_pictures, .ref qs_heats, .ref qs_after, .ref qs_hearerNames, .ref qs_needs, .ref qs_likes, .ref qs_hates, .ref qs_near])), (qs_heats, eI G 6 qs_heats_c), (qs_after, eI G 6 qs_after_c), (qs_needs, eI G 8 qs_needs_c), (qs_likes, eI G 8 qs_likes_c), (qs_hates, eI G 8 qs_hates_c), (qs_near, eI G 8 qs_near_c)] H _ := hw
        refine lv_pop C.1 C.2.1 dX8_drawHours_55 rfl ?_
        refine lv_iconst (v := 0) C.1 C.2.1 dX8_drawHours_56 (by decide) ?_
        refine lv_istore (lv' := [(8, .int 0), (7, .int r5053), (6, .int r5048), (5, .int j4841), (4, .int v2), (0, .ref qa), (1, .ref qs)]) C.1 C.2.1 dX8_drawHours_57 hl (by decide) rfl (fun ls hl => ?_)
        have loopJ5195 : ∀ (n9 : Nat) (j5192 : Int32) (j5193 : Int32) (j5194 : Int32), (2147483647 - j5192.toInt).toNat < n9 → (0 ≤ j5192.toInt ∧ j5192.toInt ≤ 8) → ∀ (H : Heap) (locs : List Loc) (ls : Array Slot), Wd G s A [(qa, .inr (7, [.int j4842, .int x5059, .int x5060, .int x5061, .int x5062, .int j5193, .int x5063, .int j5194, .ref qa_pictures, .ref qa_shown, .ref qa_sighed])), (qa_pictures, eI G 6 qa_pictures_c), (qa_shown, eI G 6 x5064), (qa_sighed, eI G 8 x5065), (qs, .inr (4, [.int qs_slides, .int qs_hearers, .int qs_nears, .int qs_lines, .int qs_pass, .int qs_spread, .int qs_lamp, .int qs_behind, .int qs_settingsTold, .ref qs_slideNames, .ref qs_pictures, .ref qs_heats, .ref qs_after, .ref qs_hearerNames, .ref qs_needs, .ref qs_likes, .ref qs_hates, .ref qs_near])), (qs_heats, eI G 6 qs_heats_c), (qs_after, eI G 6 qs_after_c), (qs_needs, eI G 8 qs_needs_c), (qs_likes, eI G 8 qs_likes_c), (qs_hates, eI G 8 qs_hates_c), (qs_near, eI G 8 qs_near_c)] H locs → lv_has ls 9 [(8, .int j5192), (5, .int j4841), (4, .int v2), (0, .ref qa), (1, .ref qs)] → W p l e (rmD 5 0 0) s m args below meth c H locs 0 0 Q (F0 m 59 ls []) := by
          intro n9
          induction n9 with
          | zero => intro j5192 j5193 j5194 h9; exact absurd h9 (Nat.not_lt_zero _)
          | succ n9 ihJ5195 =>
            intro j5192 j5193 j5194 h9J5195 hJ5195_0 H locs ls hw hl
            have hbj5192 := i_bd j5192
            refine lv_iload C.1 C.2.1 dX8_drawHours_59 (lv_at hl 0 rfl) ?_
            refine lv_aload_n C.1 C.2.1 dX8_drawHours_61 rfl (lv_at hl 4 rfl) ?_
            refine x_get C hw iwX5 4 rfl 4 rfl 1 (by decide) kw154 rfl dX8_drawHours_62 ?_
            refine lv_icmp_ge (tgt := 96) C.1 C.2.1 dX8_drawHours_65 (by decide) (fun c5212 => ?_) (fun c5212 => ?_)
            · skip
              have c5212 : qs_hearers.toInt ≤ j5192.toInt := i_leT (X := qs_hearers.toInt) (Y := j5192.toInt) rfl rfl c5212
              refine lv_aload_n C.1 C.2.1 dX8_drawHours_96 rfl (lv_at hl 3 rfl) ?_
              refine x_callvV (As := []) (rest := []) (wr := [(qa_pictures, eI G 6 qa_pictures_c), (qa_shown, eI G 6 x5064), (qa_sighed, eI G 8 x5065), (qs, .inr (4, [.int qs_slides, .int qs_hearers, .int qs_nears, .int qs_lines, .int qs_pass, .int qs_spread, .int qs_lamp, .int qs_behind, .int qs_settingsTold, .ref qs_slideNames, .ref qs_pictures, .ref qs_heats, .ref qs_after, .ref qs_hearerNames, .ref qs_needs, .ref qs_likes, .ref qs_hates, .ref qs_near])), (qs_heats, eI G 6 qs_heats_c), (qs_after, eI G 6 qs_after_c), (qs_needs, eI G 8 qs_needs_c), (qs_likes, eI G 8 qs_likes_c), (qs_hates, eI G 8 qs_hates_c), (qs_near, eI G 8 qs_near_c)]) C hw (s_X8_letHourGo qa j4842 x5059 x5060 x5061 x5062 j5193 x5063 j5194 qa_pictures qa_shown qa_sighed (by omega)) mwX8_letHourGo kw780 [0] [1, 2, 3, 4, 5, 6, 7, 8, 9, 10] rfl rfl rfl rfl (by decide) 0 rfl rfl rfl rfl hl.1 rfl (Nat.le_of_ble_eq_true rfl) ⟨(Nat.le_of_ble_eq_true rfl), (Nat.le_of_ble_eq_true rfl)⟩ ⟨(Nat.le_of_ble_eq_true rfl), (Nat.le_of_ble_eq_true rfl)⟩ dX8_drawHours_97 (fun  u9 H locs hp9 hw => ?_)
              obtain ⟨x5213, x5214, x5215, rfl, hf5216⟩ := hp9
              have hw : Wd G s A [(qa_pictures, eI G 6 qa_pictures_c), (qa_shown, eI G 6 x5064), (qa_sighed, eI G 8 x5065), (qs, .inr (4, [.int qs_slides, .int qs_hearers, .int qs_nears, .int qs_lines, .int qs_pass, .int qs_spread, .int qs_lamp, .int qs_behind, .int qs_settingsTold, .ref qs_slideNames, .ref qs_pictures, .ref qs_heats, .ref qs_after, .ref qs_hearerNames, .ref qs_needs, .ref qs_likes, .ref qs_hates, .ref qs_near])), (qs_heats, eI G 6 qs_heats_c), (qs_after, eI G 6 qs_after_c), (qs_needs, eI G 8 qs_needs_c), (qs_likes, eI G 8 qs_likes_c), (qs_hates, eI G 8 qs_hates_c), (qs_near, eI G 8 qs_near_c), (qa, .inr (7, [.int x5213, .int x5214, .int x5215, .int x5061, .int x5062, .int j5193, .int x5063, .int j5194, .ref qa_pictures, .ref qa_shown, .ref qa_sighed]))] H _ := hw
              obtain ⟨v5217, ev5217⟩ : ∃ z : Int32, j4841 + 1 = z := ⟨_, rfl⟩
              have hv5217 : v5217.toInt = j4841.toInt + 1 := by rw [← ev5217]; exact i_add rfl rfl (by omega) (by omega)
              refine lv_iinc (v := v5217) (lv' := [(5, .int v5217), (8, .int j5192), (4, .int v2), (0, .ref qa), (1, .ref qs)]) C.1 C.2.1 dX8_drawHours_100 hl (k := 1) rfl ev5217 (by decide) rfl (fun ls hl => ?_)
              refine lv_goto (tgt := 22) C.1 C.2.1 dX8_drawHours_103 (by decide) ?_
              have hw := hw.sub (w' := [(qa, .inr (7, [.int x5213, .int x5214, .int x5215, .int x5061, .int x5062, .int j5193, .int x5063, .int j5194, .ref qa_pictures, .ref qa_shown, .ref qa_sighed])), (qa_pictures, eI G 6 qa_pictures_c), (qa_shown, eI G 6 x5064), (qa_sighed, eI G 8 x5065), (qs, .inr (4, [.int qs_slides, .int qs_hearers, .int qs_nears, .int qs_lines, .int qs_pass, .int qs_spread, .int qs_lamp, .int qs_behind, .int qs_settingsTold, .ref qs_slideNames, .ref qs_pictures, .ref qs_heats, .ref qs_after, .ref qs_hearerNames, .ref qs_needs, .ref qs_likes, .ref qs_hates, .ref qs_near])), (qs_heats, eI G 6 qs_heats_c), (qs_after, eI G 6 qs_after_c), (qs_needs, eI G 8 qs_needs_c), (qs_likes, eI G 8 qs_likes_c), (qs_hates, eI G 8 qs_hates_c), (qs_near, eI G 8 qs_near_c)]) [10, 0, 1, 2, 3, 4, 5, 6, 7, 8, 9] rfl rfl
              exact ihJ4852 v5217 x5213 x5214 x5215 x5061 x5062 j5193 x5063 j5194 x5064 x5065 (by omega) (by omega) (by omega) _ _ _ hw (lv_sub hl [0, 2, 3, 4] rfl)
            · skip
              have c5212 : j5192.toInt < qs_hearers.toInt := i_leF (X := qs_hearers.toInt) (Y := j5192.toInt) rfl rfl c5212
              refine lv_aload_n C.1 C.2.1 dX8_drawHours_68 rfl (lv_at hl 3 rfl) ?_
              refine lv_bipush (v := 12) C.1 C.2.1 dX8_drawHours_69 (by decide) ?_
              refine x_calliV (As := [.int 12]) (rest := []) (wr := [(qa_pictures, eI G 6 qa_pictures_c), (qa_shown, eI G 6 x5064), (qa_sighed, eI G 8 x5065), (qs, .inr (4, [.int qs_slides, .int qs_hearers, .int qs_nears, .int qs_lines, .int qs_pass, .int qs_spread, .int qs_lamp, .int qs_behind, .int qs_settingsTold, .ref qs_slideNames, .ref qs_pictures, .ref qs_heats, .ref qs_after, .ref qs_hearerNames, .ref qs_needs, .ref qs_likes, .ref qs_hates, .ref qs_near])), (qs_heats, eI G 6 qs_heats_c), (qs_after, eI G 6 qs_after_c), (qs_needs, eI G 8 qs_needs_c), (qs_likes, eI G 8 qs_likes_c), (qs_hates, eI G 8 qs_hates_c), (qs_near, eI G 8 qs_near_c)]) C hw (s_X8_drawOf qa 12 j4842 x5059 x5060 x5061 x5062 j5193 x5063 j5194 qa_pictures qa_shown qa_sighed) mwX8_drawOf kw942 [0] [1, 2, 3, 4, 5, 6, 7, 8, 9, 10] rfl rfl rfl rfl (by decide) 0 rfl rfl rfl rfl hl.1 rfl (Nat.le_of_ble_eq_true rfl) ⟨(Nat.le_of_ble_eq_true rfl), (Nat.le_of_ble_eq_true rfl)⟩ ⟨(Nat.le_of_ble_eq_true rfl), (Nat.le_of_ble_eq_true rfl)⟩ dX8_drawHours_71 (fun r5218 u9 H locs hp9 hw => ?_)
              obtain ⟨x5219, x5220, rfl, rfl, hf5221, hf5222⟩ := hp9
              have hw : Wd G s A [(qa_pictures, eI G 6 qa_pictures_c), (qa_shown, eI G 6 x5064), (qa_sighed, eI G 8 x5065), (qs, .inr (4, [.int qs_slides, .int qs_hearers, .int qs_nears, .int qs_lines, .int qs_pass, .int qs_spread, .int qs_lamp, .int qs_behind, .int qs_settingsTold, .ref qs_slideNames, .ref qs_pictures, .ref qs_heats, .ref qs_after, .ref qs_hearerNames, .ref qs_needs, .ref qs_likes, .ref qs_hates, .ref qs_near])), (qs_heats, eI G 6 qs_heats_c), (qs_after, eI G 6 qs_after_c), (qs_needs, eI G 8 qs_needs_c), (qs_likes, eI G 8 qs_likes_c), (qs_hates, eI G 8 qs_hates_c), (qs_near, eI G 8 qs_near_c), (qa, .inr (7, [.int j4842, .int x5059, .int x5060, .int x5061, .int x5062, .int j5193, .int x5063, .int x5219, .ref qa_pictures, .ref qa_shown, .ref qa_sighed]))] H _ := hw
              have hf5222 : 12 ≤ 6 → r5218.toInt ≤ 5 := by first | exact hf5222 | (have e0 : (12 : Int32).toInt = 12 := rfl; omega)
              have J5227 : ∀ (j5226 : Int32), ∀ (H : Heap) (locs : List Loc) (ls : Array Slot), Wd G s A [(qa_pictures, eI G 6 qa_pictures_c), (qa_shown, eI G 6 x5064), (qa_sighed, eI G 8 x5065), (qs, .inr (4, [.int qs_slides, .int qs_hearers, .int qs_nears, .int qs_lines, .int qs_pass, .int qs_spread, .int qs_lamp, .int qs_behind, .int qs_settingsTold, .ref qs_slideNames, .ref qs_pictures, .ref qs_heats, .ref qs_after, .ref qs_hearerNames, .ref qs_needs, .ref qs_likes, .ref qs_hates, .ref qs_near])), (qs_heats, eI G 6 qs_heats_c), (qs_after, eI G 6 qs_after_c), (qs_needs, eI G 8 qs_needs_c), (qs_likes, eI G 8 qs_likes_c), (qs_hates, eI G 8 qs_hates_c), (qs_near, eI G 8 qs_near_c), (qa, .inr (7, [.int j4842, .int x5059, .int x5060, .int x5061, .int x5062, .int j5226, .int x5063, .int x5219, .ref qa_pictures, .ref qa_shown, .ref qa_sighed]))] H locs → lv_has ls 9 [(8, .int j5192), (5, .int j4841), (4, .int v2), (0, .ref qa), (1, .ref qs)] → W p l e (rmD 5 0 0) s m args below meth c H locs 0 0 Q (F0 m 90 ls []) := by
                intro j5226  H locs ls hw hl
                obtain ⟨v5229, ev5229⟩ : ∃ z : Int32, j5192 + 1 = z := ⟨_, rfl⟩
                have hv5229 : v5229.toInt = j5192.toInt + 1 := by rw [← ev5229]; exact i_add rfl rfl (by omega) (by omega)
                refine lv_iinc (v := v5229) (lv' := [(8, .int v5229), (5, .int j4841), (4, .int v2), (0, .ref qa), (1, .ref qs)]) C.1 C.2.1 dX8_drawHours_90 hl (k := 0) rfl ev5229 (by decide) rfl (fun ls hl => ?_)
                refine lv_goto (tgt := 59) C.1 C.2.1 dX8_drawHours_93 (by decide) ?_
                have hw := hw.sub (w' := [(qa, .inr (7, [.int j4842, .int x5059, .int x5060, .int x5061, .int x5062, .int j5226, .int x5063, .int x5219, .ref qa_pictures, .ref qa_shown, .ref qa_sighed])), (qa_pictures, eI G 6 qa_pictures_c), (qa_shown, eI G 6 x5064), (qa_sighed, eI G 8 x5065), (qs, .inr (4, [.int qs_slides, .int qs_hearers, .int qs_nears, .int qs_lines, .int qs_pass, .int qs_spread, .int qs_lamp, .int qs_behind, .int qs_settingsTold, .ref qs_slideNames, .ref qs_pictures, .ref qs_heats, .ref qs_after, .ref qs_hearerNames, .ref qs_needs, .ref qs_likes, .ref qs_hates, .ref qs_near])), (qs_heats, eI G 6 qs_heats_c), (qs_after, eI G 6 qs_after_c), (qs_needs, eI G 8 qs_needs_c), (qs_likes, eI G 8 qs_likes_c), (qs_hates, eI G 8 qs_hates_c), (qs_near, eI G 8 qs_near_c)]) [10, 0, 1, 2, 3, 4, 5, 6, 7, 8, 9] rfl rfl
                exact ihJ5195 v5229 j5226 x5219 (by omega) (by omega) _ _ _ hw (lv_sub hl [0, 1, 2, 3, 4] rfl)
              refine lv_if_ne (tgt := 90) C.1 C.2.1 dX8_drawHours_74 (by decide) (fun c5223 => ?_) (fun c5223 => ?_)
              · skip
                have c5223 : r5218.toInt ≠ 0 := i_eqF (X := r5218.toInt) (Y := 0) rfl rfl c5223
                exact J5227 j5193   _ _ _ hw (lv_sub hl [0, 1, 2, 3, 4] rfl)
              · skip
                have c5223 : r5218.toInt = 0 := i_eqT (X := r5218.toInt) (Y := 0) rfl rfl c5223
                refine lv_aload_n C.1 C.2.1 dX8_drawHours_77 rfl (lv_at hl 3 rfl) ?_
                refine lv_dup C.1 C.2.1 dX8_drawHours_78 rfl ?_
                refine x_get C hw iwX8 7 rfl 10 rfl 5 (by decide) kw256 rfl dX8_drawHours_79 ?_
                refine lv_iconst (v := 1) C.1 C.2.1 dX8_drawHours_82 (by decide) ?_
                refine lv_iload C.1 C.2.1 dX8_drawHours_83 (lv_at hl 0 rfl) ?_
                refine lv_ishl C.1 C.2.1 dX8_drawHours_85 (x_genP (fun z : Int32 => 1 ≤ z.toInt ∧ z.toInt ≤ 256) (i_shl1 (by omega) (by omega)) (fun v5230 hv5230 => ?_))
                refine lv_ixor C.1 C.2.1 dX8_drawHours_86 (x_gen (fun v5231 => ?_))
                refine x_put (w' := [(qa_pictures, eI G 6 qa_pictures_c), (qa_shown, eI G 6 x5064), (qa_sighed, eI G 8 x5065), (qs, .inr (4, [.int qs_slides, .int qs_hearers, .int qs_nears, .int qs_lines, .int qs_pass, .int qs_spread, .int qs_lamp, .int qs_behind, .int qs_settingsTold, .ref qs_slideNames, .ref qs_pictures, .ref qs_heats, .ref qs_after, .ref qs_hearerNames, .ref qs_needs, .ref qs_likes, .ref qs_hates, .ref qs_near])), (qs_heats, eI G 6 qs_heats_c), (qs_after, eI G 6 qs_after_c), (qs_needs, eI G 8 qs_needs_c), (qs_likes, eI G 8 qs_likes_c), (qs_hates, eI G 8 qs_hates_c), (qs_near, eI G 8 qs_near_c), (qa, .inr (7, [.int j4842, .int x5059, .int x5060, .int x5061, .int x5062, .int v5231, .int x5063, .int x5219, .ref qa_pictures, .ref qa_shown, .ref qa_sighed]))]) C hw iwX8 tyX8_ok nmX8 7 rfl 10 rfl 5 (by decide) kw256 rfl rfl rfl (Nat.le_of_ble_eq_true rfl) rfl dX8_drawHours_87 (fun H locs hw => ?_)
                exact J5227 v5231   _ _ _ hw (lv_sub hl [0, 1, 2, 3, 4] rfl)
        exact loopJ5195 _ 0 j4847 x5054 (Nat.lt_succ_self _) (by decide) _ _ _ hw (lv_sub hl [0, 3, 4, 5, 6] rfl)
  exact loopJ4852 _ 0 qa_hour qa_heat qa_black qa_so qa_cracked qa_behind qa_allSighs a1 qa_shown_c qa_sighed_c (Nat.lt_succ_self _) (by omega) (by decide) _ _ _ hw (lv_sub hl [0, 1, 2, 3] rfl)
theorem dX8_lookalikes_0 : decode cX8_lookalikes 0 = .ok (.iconst 0, 1) := by decide +kernel
theorem dX8_lookalikes_1 : decode cX8_lookalikes 1 = .ok (.istore_n 3, 1) := by decide +kernel
theorem dX8_lookalikes_2 : decode cX8_lookalikes 2 = .ok (.iconst 0, 1) := by decide +kernel
theorem dX8_lookalikes_3 : decode cX8_lookalikes 3 = .ok (.istore 4, 2) := by decide +kernel
theorem dX8_lookalikes_5 : decode cX8_lookalikes 5 = .ok (.iload 4, 2) := by decide +kernel
theorem dX8_lookalikes_7 : decode cX8_lookalikes 7 = .ok (.aload_n 1, 1) := by decide +kernel
theorem dX8_lookalikes_8 : decode cX8_lookalikes 8 = .ok (.getfield 68, 3) := by decide +kernel
theorem dX8_lookalikes_11 : decode cX8_lookalikes 11 = .ok (.if_icmp .ge 37, 3) := by decide +kernel
theorem dX8_lookalikes_14 : decode cX8_lookalikes 14 = .ok (.aload_n 0, 1) := by decide +kernel
theorem dX8_lookalikes_15 : decode cX8_lookalikes 15 = .ok (.getfield 9, 3) := by decide +kernel
theorem dX8_lookalikes_18 : decode cX8_lookalikes 18 = .ok (.iload 4, 2) := by decide +kernel
theorem dX8_lookalikes_20 : decode cX8_lookalikes 20 = .ok (.iaload, 1) := by decide +kernel
theorem dX8_lookalikes_21 : decode cX8_lookalikes 21 = .ok (.ldc 120, 2) := by decide +kernel
theorem dX8_lookalikes_23 : decode cX8_lookalikes 23 = .ok (.aload_n 0, 1) := by decide +kernel
theorem dX8_lookalikes_24 : decode cX8_lookalikes 24 = .ok (.getfield 9, 3) := by decide +kernel
theorem dX8_lookalikes_27 : decode cX8_lookalikes 27 = .ok (.iload_n 2, 1) := by decide +kernel
theorem dX8_lookalikes_28 : decode cX8_lookalikes 28 = .ok (.iaload, 1) := by decide +kernel
theorem dX8_lookalikes_29 : decode cX8_lookalikes 29 = .ok (.invokestatic 121, 3) := by decide +kernel
theorem mwX4_looks : MwS yX4_looks cX4_looks 4 (some .boolean) 3 := ⟨⟨kw879, kw16, by decide +kernel⟩, kw878⟩
theorem dX8_lookalikes_32 : decode cX8_lookalikes 32 = .ok (.ifCond .eq 10, 3) := by decide +kernel
theorem dX8_lookalikes_35 : decode cX8_lookalikes 35 = .ok (.iload_n 3, 1) := by decide +kernel
theorem dX8_lookalikes_36 : decode cX8_lookalikes 36 = .ok (.iconst 1, 1) := by decide +kernel
theorem dX8_lookalikes_37 : decode cX8_lookalikes 37 = .ok (.iload 4, 2) := by decide +kernel
theorem dX8_lookalikes_39 : decode cX8_lookalikes 39 = .ok (.ishl, 1) := by decide +kernel
theorem dX8_lookalikes_40 : decode cX8_lookalikes 40 = .ok (.ior, 1) := by decide +kernel
theorem dX8_lookalikes_41 : decode cX8_lookalikes 41 = .ok (.istore_n 3, 1) := by decide +kernel
theorem dX8_lookalikes_42 : decode cX8_lookalikes 42 = .ok (.iinc 4 1, 3) := by decide +kernel
theorem dX8_lookalikes_45 : decode cX8_lookalikes 45 = .ok (.goto (-40), 3) := by decide +kernel
theorem dX8_lookalikes_48 : decode cX8_lookalikes 48 = .ok (.iload_n 3, 1) := by decide +kernel
theorem dX8_lookalikes_49 : decode cX8_lookalikes 49 = .ok (.ireturn, 1) := by decide +kernel
set_option maxHeartbeats 4000000 in
set_option maxRecDepth 100000 in
theorem s_X8_lookalikes {l : Launch} {G : Gc} (qa : Nat) (qs : Nat) (a1 : Int32) (qa_hour : Int32) (qa_heat : Int32) (qa_black : Int32) (qa_so : Int32) (qa_cracked : Int32) (qa_behind : Int32) (qa_allSighs : Int32) (qa_seed : Int32) (qa_pictures : Nat) (qa_shown : Nat) (qa_sighed : Nat) (qa_pictures_c : Nat → Int32) (qs_slides : Int32) (qs_hearers : Int32) (qs_nears : Int32) (qs_lines : Int32) (qs_pass : Int32) (qs_spread : Int32) (qs_lamp : Int32) (qs_behind : Int32) (qs_settingsTold : Int32) (qs_slideNames : Nat) (qs_pictures : Nat) (qs_heats : Nat) (qs_after : Nat) (qs_hearerNames : Nat) (qs_needs : Nat) (qs_likes : Nat) (qs_hates : Nat) (qs_near : Nat) (hi_a1 : 0 ≤ a1.toInt ∧ a1.toInt ≤ 5) (hi_qs_slides : 0 ≤ qs_slides.toInt ∧ qs_slides.toInt ≤ 6) : Ci l yX8_lookalikes cX8_lookalikes 5 (some .int) 3 0 0 G [.ref qa, .ref qs, .int a1] [(qa, .inr (7, [.int qa_hour, .int qa_heat, .int qa_black, .int qa_so, .int qa_cracked, .int qa_behind, .int qa_allSighs, .int qa_seed, .ref qa_pictures, .ref qa_shown, .ref qa_sighed])), (qa_pictures, eI G 6 qa_pictures_c), (qs, .inr (4, [.int qs_slides, .int qs_hearers, .int qs_nears, .int qs_lines, .int qs_pass, .int qs_spread, .int qs_lamp, .int qs_behind, .int qs_settingsTold, .ref qs_slideNames, .ref qs_pictures, .ref qs_heats, .ref qs_after, .ref qs_hearerNames, .ref qs_needs, .ref qs_likes, .ref qs_hates, .ref qs_near]))] (fun (r9 : Int32) (u9 : va_W) => ∃ (r_x : Int32), r9 = r_x ∧ u9 = [(qa, .inr (7, [.int qa_hour, .int qa_heat, .int qa_black, .int qa_so, .int qa_cracked, .int qa_behind, .int qa_allSighs, .int qa_seed, .ref qa_pictures, .ref qa_shown, .ref qa_sighed])), (qa_pictures, eI G 6 qa_pictures_c), (qs, .inr (4, [.int qs_slides, .int qs_hearers, .int qs_nears, .int qs_lines, .int qs_pass, .int qs_spread, .int qs_lamp, .int qs_behind, .int qs_settingsTold, .ref qs_slideNames, .ref qs_pictures, .ref qs_heats, .ref qs_after, .ref qs_hearerNames, .ref qs_needs, .ref qs_likes, .ref qs_hates, .ref qs_near]))]) := by
  refine Ci.ofQ (by decide) (Nat.le_of_ble_eq_true rfl) ?_
  intro p e s m below meth c ls A args Q hQ B hw hl
  have C : CallFix p m c cX8_lookalikes 5 s args gw "LanternState$State" := B.1
  have hl : lv_has ls 5 [(0, .ref qa), (1, .ref qs), (2, .int a1)] := hl
  refine lv_iconst (v := 0) C.1 C.2.1 dX8_lookalikes_0 (by decide) ?_
  refine lv_istore_n (lv' := [(3, .int 0), (0, .ref qa), (1, .ref qs), (2, .int a1)]) C.1 C.2.1 dX8_lookalikes_1 rfl hl (by decide) rfl (fun ls hl => ?_)
  refine lv_iconst (v := 0) C.1 C.2.1 dX8_lookalikes_2 (by decide) ?_
  refine lv_istore (lv' := [(4, .int 0), (3, .int 0), (0, .ref qa), (1, .ref qs), (2, .int a1)]) C.1 C.2.1 dX8_lookalikes_3 hl (by decide) rfl (fun ls hl => ?_)
  have loopJ70 : ∀ (n9 : Nat) (j68 : Int32) (j69 : Int32), (2147483647 - j68.toInt).toNat < n9 → (0 ≤ j68.toInt ∧ j68.toInt ≤ 6) → ∀ (H : Heap) (locs : List Loc) (ls : Array Slot), Wd G s A [(qa, .inr (7, [.int qa_hour, .int qa_heat, .int qa_black, .int qa_so, .int qa_cracked, .int qa_behind, .int qa_allSighs, .int qa_seed, .ref qa_pictures, .ref qa_shown, .ref qa_sighed])), (qa_pictures, eI G 6 qa_pictures_c), (qs, .inr (4, [.int qs_slides, .int qs_hearers, .int qs_nears, .int qs_lines, .int qs_pass, .int qs_spread, .int qs_lamp, .int qs_behind, .int qs_settingsTold, .ref qs_slideNames, .ref qs_pictures, .ref qs_heats, .ref qs_after, .ref qs_hearerNames, .ref qs_needs, .ref qs_likes, .ref qs_hates, .ref qs_near]))] H locs → lv_has ls 5 [(4, .int j68), (3, .int j69), (0, .ref qa), (1, .ref qs), (2, .int a1)] → W p l e (rmD 3 0 0) s m args below meth c H locs 0 0 Q (F0 m 5 ls []) := by
    intro n9
    induction n9 with
    | zero => intro j68 j69 h9; exact absurd h9 (Nat.not_lt_zero _)
    | succ n9 ihJ70 =>
      intro j68 j69 h9J70 hJ70_0 H locs ls hw hl
      have hbj68 := i_bd j68
      refine lv_iload C.1 C.2.1 dX8_lookalikes_5 (lv_at hl 0 rfl) ?_
      refine lv_aload_n C.1 C.2.1 dX8_lookalikes_7 rfl (lv_at hl 3 rfl) ?_
      refine x_get C hw iwX5 4 rfl 2 rfl 0 (by decide) kw149 rfl dX8_lookalikes_8 ?_
      refine lv_icmp_ge (tgt := 48) C.1 C.2.1 dX8_lookalikes_11 (by decide) (fun c83 => ?_) (fun c83 => ?_)
      · skip
        have c83 : qs_slides.toInt ≤ j68.toInt := i_leT (X := qs_slides.toInt) (Y := j68.toInt) rfl rfl c83
        refine lv_iload_n C.1 C.2.1 dX8_lookalikes_48 rfl (lv_at hl 1 rfl) ?_
        exact x_retiQ hQ B hw ⟨j69, rfl, rfl⟩ (Nat.le_of_ble_eq_true rfl) (Nat.le_of_ble_eq_true rfl) dX8_lookalikes_49
      · skip
        have c83 : j68.toInt < qs_slides.toInt := i_leF (X := qs_slides.toInt) (Y := j68.toInt) rfl rfl c83
        refine lv_aload_n C.1 C.2.1 dX8_lookalikes_14 rfl (lv_at hl 2 rfl) ?_
        refine x_get C hw iwX8 7 rfl 0 rfl 8 (by decide) kw263 rfl dX8_lookalikes_15 ?_
        refine lv_iload C.1 C.2.1 dX8_lookalikes_18 (lv_at hl 0 rfl) ?_
        refine x_iald (v := (qa_pictures_c j68.toNatClampNeg)) C hw 1 rfl (i_in (by omega) (by omega)) rfl dX8_lookalikes_20 (x_gen (fun v84 => ?_))
        refine lv_ldc (v := 65535) C.1 C.2.1 C.2.2.2.1 (C.2.2.2.2 _ kw889) dX8_lookalikes_21 ?_
        refine lv_aload_n C.1 C.2.1 dX8_lookalikes_23 rfl (lv_at hl 2 rfl) ?_
        refine x_get C hw iwX8 7 rfl 0 rfl 8 (by decide) kw263 rfl dX8_lookalikes_24 ?_
        refine lv_iload_n C.1 C.2.1 dX8_lookalikes_27 rfl (lv_at hl 4 rfl) ?_
        refine x_iald (v := (qa_pictures_c a1.toNatClampNeg)) C hw 1 rfl (i_in (by omega) (by omega)) rfl dX8_lookalikes_28 (x_gen (fun v85 => ?_))
        refine x_calliS (As := [.int v84, .int 65535, .int v85]) (rest := []) (wr := [(qa, .inr (7, [.int qa_hour, .int qa_heat, .int qa_black, .int qa_so, .int qa_cracked, .int qa_behind, .int qa_allSighs, .int qa_seed, .ref qa_pictures, .ref qa_shown, .ref qa_sighed])), (qa_pictures, eI G 6 qa_pictures_c), (qs, .inr (4, [.int qs_slides, .int qs_hearers, .int qs_nears, .int qs_lines, .int qs_pass, .int qs_spread, .int qs_lamp, .int qs_behind, .int qs_settingsTold, .ref qs_slideNames, .ref qs_pictures, .ref qs_heats, .ref qs_after, .ref qs_hearerNames, .ref qs_needs, .ref qs_likes, .ref qs_hates, .ref qs_near]))]) C hw (s_X4_looks v84 65535 v85) mwX4_looks kw890 [] [0, 1, 2] rfl rfl rfl rfl (by decide) rfl hl.1 rfl (Nat.le_of_ble_eq_true rfl) ⟨(Nat.le_of_ble_eq_true rfl), (Nat.le_of_ble_eq_true rfl)⟩ ⟨(Nat.le_of_ble_eq_true rfl), (Nat.le_of_ble_eq_true rfl)⟩ dX8_lookalikes_29 (fun r86 u9 H locs hp9 hw => ?_)
        have J90 : ∀ (j89 : Int32), ∀ (H : Heap) (locs : List Loc) (ls : Array Slot), Wd G s A [(qa, .inr (7, [.int qa_hour, .int qa_heat, .int qa_black, .int qa_so, .int qa_cracked, .int qa_behind, .int qa_allSighs, .int qa_seed, .ref qa_pictures, .ref qa_shown, .ref qa_sighed])), (qa_pictures, eI G 6 qa_pictures_c), (qs, .inr (4, [.int qs_slides, .int qs_hearers, .int qs_nears, .int qs_lines, .int qs_pass, .int qs_spread, .int qs_lamp, .int qs_behind, .int qs_settingsTold, .ref qs_slideNames, .ref qs_pictures, .ref qs_heats, .ref qs_after, .ref qs_hearerNames, .ref qs_needs, .ref qs_likes, .ref qs_hates, .ref qs_near]))] H locs → lv_has ls 5 [(4, .int j68), (3, .int j89), (0, .ref qa), (1, .ref qs), (2, .int a1)] → W p l e (rmD 3 0 0) s m args below meth c H locs 0 0 Q (F0 m 42 ls []) := by
          intro j89  H locs ls hw hl
          obtain ⟨v92, ev92⟩ : ∃ z : Int32, j68 + 1 = z := ⟨_, rfl⟩
          have hv92 : v92.toInt = j68.toInt + 1 := by rw [← ev92]; exact i_add rfl rfl (by omega) (by omega)
          refine lv_iinc (v := v92) (lv' := [(4, .int v92), (3, .int j89), (0, .ref qa), (1, .ref qs), (2, .int a1)]) C.1 C.2.1 dX8_lookalikes_42 hl (k := 0) rfl ev92 (by decide) rfl (fun ls hl => ?_)
          refine lv_goto (tgt := 5) C.1 C.2.1 dX8_lookalikes_45 (by decide) ?_
          exact ihJ70 v92 j89 (by omega) (by omega) _ _ _ hw (lv_sub hl [0, 1, 2, 3, 4] rfl)
        rcases hp9 with ⟨rfl, rfl⟩ | ⟨rfl, rfl⟩
        · skip
          have hw : Wd G s A [(qa, .inr (7, [.int qa_hour, .int qa_heat, .int qa_black, .int qa_so, .int qa_cracked, .int qa_behind, .int qa_allSighs, .int qa_seed, .ref qa_pictures, .ref qa_shown, .ref qa_sighed])), (qa_pictures, eI G 6 qa_pictures_c), (qs, .inr (4, [.int qs_slides, .int qs_hearers, .int qs_nears, .int qs_lines, .int qs_pass, .int qs_spread, .int qs_lamp, .int qs_behind, .int qs_settingsTold, .ref qs_slideNames, .ref qs_pictures, .ref qs_heats, .ref qs_after, .ref qs_hearerNames, .ref qs_needs, .ref qs_likes, .ref qs_hates, .ref qs_near]))] H _ := hw
          refine lv_if_eq (tgt := 42) C.1 C.2.1 dX8_lookalikes_32 (by decide) (fun _ => ?_) (fun h9 => absurd (by decide) h9)
          exact J90 j69   _ _ _ hw (lv_sub hl [0, 1, 2, 3, 4] rfl)
        · skip
          have hw : Wd G s A [(qa, .inr (7, [.int qa_hour, .int qa_heat, .int qa_black, .int qa_so, .int qa_cracked, .int qa_behind, .int qa_allSighs, .int qa_seed, .ref qa_pictures, .ref qa_shown, .ref qa_sighed])), (qa_pictures, eI G 6 qa_pictures_c), (qs, .inr (4, [.int qs_slides, .int qs_hearers, .int qs_nears, .int qs_lines, .int qs_pass, .int qs_spread, .int qs_lamp, .int qs_behind, .int qs_settingsTold, .ref qs_slideNames, .ref qs_pictures, .ref qs_heats, .ref qs_after, .ref qs_hearerNames, .ref qs_needs, .ref qs_likes, .ref qs_hates, .ref qs_near]))] H _ := hw
          refine lv_if_eq (tgt := 42) C.1 C.2.1 dX8_lookalikes_32 (by decide) (fun h9 => absurd h9 (by decide)) (fun _ => ?_)
          refine lv_iload_n C.1 C.2.1 dX8_lookalikes_35 rfl (lv_at hl 1 rfl) ?_
          refine lv_iconst (v := 1) C.1 C.2.1 dX8_lookalikes_36 (by decide) ?_
          refine lv_iload C.1 C.2.1 dX8_lookalikes_37 (lv_at hl 0 rfl) ?_
          refine lv_ishl C.1 C.2.1 dX8_lookalikes_39 (x_genP (fun z : Int32 => 1 ≤ z.toInt ∧ z.toInt ≤ 256) (i_shl1 (by omega) (by omega)) (fun v93 hv93 => ?_))
          refine lv_ior C.1 C.2.1 dX8_lookalikes_40 (x_gen (fun v94 => ?_))
          refine lv_istore_n (lv' := [(3, .int v94), (4, .int j68), (0, .ref qa), (1, .ref qs), (2, .int a1)]) C.1 C.2.1 dX8_lookalikes_41 rfl hl (by decide) rfl (fun ls hl => ?_)
          exact J90 v94   _ _ _ hw (lv_sub hl [1, 0, 2, 3, 4] rfl)
  exact loopJ70 _ 0 0 (Nat.lt_succ_self _) (by decide) _ _ _ hw (lv_sub hl [0, 1, 2, 3, 4] rfl)
