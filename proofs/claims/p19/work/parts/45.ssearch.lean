-- needs: 4
theorem dX6_keepIfBetter_0 : decode cX6_keepIfBetter 0 = .ok (.iload_n 2, 1) := by decide +kernel
theorem dX6_keepIfBetter_1 : decode cX6_keepIfBetter 1 = .ok (.aload_n 0, 1) := by decide +kernel
theorem dX6_keepIfBetter_2 : decode cX6_keepIfBetter 2 = .ok (.getfield 49, 3) := by decide +kernel
theorem dX6_keepIfBetter_5 : decode cX6_keepIfBetter 5 = .ok (.if_icmp .le 28, 3) := by decide +kernel
theorem dX6_keepIfBetter_33 : decode cX6_keepIfBetter 33 = .ok (.return_, 1) := by decide +kernel
theorem dX6_keepIfBetter_8 : decode cX6_keepIfBetter 8 = .ok (.aload_n 0, 1) := by decide +kernel
theorem dX6_keepIfBetter_9 : decode cX6_keepIfBetter 9 = .ok (.iload_n 2, 1) := by decide +kernel
theorem dX6_keepIfBetter_10 : decode cX6_keepIfBetter 10 = .ok (.putfield 49, 3) := by decide +kernel
theorem dX6_keepIfBetter_13 : decode cX6_keepIfBetter 13 = .ok (.aload_n 0, 1) := by decide +kernel
theorem dX6_keepIfBetter_14 : decode cX6_keepIfBetter 14 = .ok (.iload_n 1, 1) := by decide +kernel
theorem dX6_keepIfBetter_15 : decode cX6_keepIfBetter 15 = .ok (.putfield 76, 3) := by decide +kernel
theorem dX6_keepIfBetter_18 : decode cX6_keepIfBetter 18 = .ok (.aload_n 0, 1) := by decide +kernel
theorem dX6_keepIfBetter_19 : decode cX6_keepIfBetter 19 = .ok (.getfield 15, 3) := by decide +kernel
theorem dX6_keepIfBetter_22 : decode cX6_keepIfBetter 22 = .ok (.iconst 0, 1) := by decide +kernel
theorem dX6_keepIfBetter_23 : decode cX6_keepIfBetter 23 = .ok (.aload_n 0, 1) := by decide +kernel
theorem dX6_keepIfBetter_24 : decode cX6_keepIfBetter 24 = .ok (.getfield 9, 3) := by decide +kernel
theorem dX6_keepIfBetter_27 : decode cX6_keepIfBetter 27 = .ok (.iconst 0, 1) := by decide +kernel
theorem dX6_keepIfBetter_28 : decode cX6_keepIfBetter 28 = .ok (.bipush 6, 2) := by decide +kernel
theorem dX6_keepIfBetter_30 : decode cX6_keepIfBetter 30 = .ok (.invokestatic 79, 3) := by decide +kernel
set_option maxHeartbeats 4000000 in
set_option maxRecDepth 100000 in
theorem s_X6_keepIfBetter {l : Launch} {G : Gc} (qf : Nat) (a1 : Int32) (a2 : Int32) (qf_bestPath : Nat) (qf_bestSize : Int32) (qf_bestPassed : Int32) (qf_path : Nat) (qf_passing : Int32) (qf_picture : Int32) (qf_behind : Int32) (qf_bestPath_c : Nat → Int32) (qf_path_c : Nat → Int32) (hi_a1 : 0 ≤ a1.toInt ∧ a1.toInt ≤ 6) (hi_qf_bestSize : 0 ≤ qf_bestSize.toInt ∧ qf_bestSize.toInt ≤ 6) : Cv l yX6_keepIfBetter cX6_keepIfBetter 3 1 0 0 G [.ref qf, .int a1, .int a2] [(qf, .inr (5, [.ref qf_bestPath, .int qf_bestSize, .int qf_bestPassed, .ref qf_path, .int qf_passing, .int qf_picture, .int qf_behind])), (qf_bestPath, eI G 6 qf_bestPath_c), (qf_path, eI G 6 qf_path_c)] (fun (u9 : va_W) => ∃ (x0_qf_bestSize : Int32) (x1_qf_bestPassed : Int32) (x2_qf_bestPath_c : Nat → Int32), u9 = [(qf, .inr (5, [.ref qf_bestPath, .int x0_qf_bestSize, .int x1_qf_bestPassed, .ref qf_path, .int qf_passing, .int qf_picture, .int qf_behind])), (qf_bestPath, eI G 6 x2_qf_bestPath_c), (qf_path, eI G 6 qf_path_c)] ∧ (0 ≤ x0_qf_bestSize.toInt ∧ x0_qf_bestSize.toInt ≤ 6)) := by
  refine Cv.ofQ (by decide) (Nat.le_of_ble_eq_true rfl) ?_
  intro p e s m below meth c ls A args Q hQ B hw hl
  have C : CallFix p m c cX6_keepIfBetter 3 s args gw "LanternState$Search" := B.1
  have hl : lv_has ls 3 [(0, .ref qf), (1, .int a1), (2, .int a2)] := hl
  refine lv_iload_n C.1 C.2.1 dX6_keepIfBetter_0 rfl (lv_at hl 2 rfl) ?_
  refine lv_aload_n C.1 C.2.1 dX6_keepIfBetter_1 rfl (lv_at hl 0 rfl) ?_
  refine x_get C hw iwX6 5 rfl 0 rfl 2 (by decide) kw381 rfl dX6_keepIfBetter_2 ?_
  refine lv_icmp_le (tgt := 33) C.1 C.2.1 dX6_keepIfBetter_5 (by decide) (fun c1 => ?_) (fun c1 => ?_)
  · skip
    have c1 : a2.toInt ≤ qf_bestPassed.toInt := i_leT (X := a2.toInt) (Y := qf_bestPassed.toInt) rfl rfl c1
    have bc1_a2 := i_bd a2
    have bc1_qf_bestPassed := i_bd qf_bestPassed
    exact x_retvQ hQ B hw ⟨qf_bestSize, qf_bestPassed, qf_bestPath_c, rfl, (by omega)⟩ (Nat.le_of_ble_eq_true rfl) (Nat.le_of_ble_eq_true rfl) dX6_keepIfBetter_33
  · skip
    have c1 : qf_bestPassed.toInt < a2.toInt := i_leF (X := a2.toInt) (Y := qf_bestPassed.toInt) rfl rfl c1
    have bc1_a2 := i_bd a2
    have bc1_qf_bestPassed := i_bd qf_bestPassed
    refine lv_aload_n C.1 C.2.1 dX6_keepIfBetter_8 rfl (lv_at hl 0 rfl) ?_
    refine lv_iload_n C.1 C.2.1 dX6_keepIfBetter_9 rfl (lv_at hl 2 rfl) ?_
    refine x_put (w' := [(qf, .inr (5, [.ref qf_bestPath, .int qf_bestSize, .int a2, .ref qf_path, .int qf_passing, .int qf_picture, .int qf_behind])), (qf_bestPath, eI G 6 qf_bestPath_c), (qf_path, eI G 6 qf_path_c)]) C hw iwX6 tyX6_ok nmX6 5 rfl 0 rfl 2 (by decide) kw381 rfl rfl rfl (Nat.le_of_ble_eq_true rfl) rfl dX6_keepIfBetter_10 (fun H locs hw => ?_)
    refine lv_aload_n C.1 C.2.1 dX6_keepIfBetter_13 rfl (lv_at hl 0 rfl) ?_
    refine lv_iload_n C.1 C.2.1 dX6_keepIfBetter_14 rfl (lv_at hl 1 rfl) ?_
    refine x_put (w' := [(qf, .inr (5, [.ref qf_bestPath, .int a1, .int a2, .ref qf_path, .int qf_passing, .int qf_picture, .int qf_behind])), (qf_bestPath, eI G 6 qf_bestPath_c), (qf_path, eI G 6 qf_path_c)]) C hw iwX6 tyX6_ok nmX6 5 rfl 0 rfl 1 (by decide) kw379 rfl rfl rfl (Nat.le_of_ble_eq_true rfl) rfl dX6_keepIfBetter_15 (fun H locs hw => ?_)
    refine lv_aload_n C.1 C.2.1 dX6_keepIfBetter_18 rfl (lv_at hl 0 rfl) ?_
    refine x_get C hw iwX6 5 rfl 0 rfl 3 (by decide) kw382 rfl dX6_keepIfBetter_19 ?_
    refine lv_iconst (v := 0) C.1 C.2.1 dX6_keepIfBetter_22 (by decide) ?_
    refine lv_aload_n C.1 C.2.1 dX6_keepIfBetter_23 rfl (lv_at hl 0 rfl) ?_
    refine x_get C hw iwX6 5 rfl 0 rfl 0 (by decide) kw377 rfl dX6_keepIfBetter_24 ?_
    refine lv_iconst (v := 0) C.1 C.2.1 dX6_keepIfBetter_27 (by decide) ?_
    refine lv_bipush (v := 6) C.1 C.2.1 dX6_keepIfBetter_28 (by decide) ?_
    obtain ⟨g2, eg2⟩ : ∃ z, va_cpy qf_path_c qf_bestPath_c 0 0 6 = z := ⟨_, rfl⟩
    refine x_copyi (g' := g2) (w' := [(qf, .inr (5, [.ref qf_bestPath, .int a1, .int a2, .ref qf_path, .int qf_passing, .int qf_picture, .int qf_behind])), (qf_bestPath, eI G 6 g2), (qf_path, eI G 6 qf_path_c)]) C hw kw828 hl.1 2 1 rfl rfl (by decide) (by decide) (by decide) (Nat.le_of_ble_eq_true rfl) (Nat.le_of_ble_eq_true rfl) eg2 rfl (Nat.le_of_ble_eq_true rfl) (Nat.le_of_ble_eq_true rfl) dX6_keepIfBetter_30 (fun H locs hw => ?_)
    exact x_retvQ hQ B hw ⟨a1, a2, g2, rfl, (by omega)⟩ (Nat.le_of_ble_eq_true rfl) (Nat.le_of_ble_eq_true rfl) dX6_keepIfBetter_33
theorem dX6_goOn_0 : decode cX6_goOn 0 = .ok (.iconst 1, 1) := by decide +kernel
theorem dX6_goOn_1 : decode cX6_goOn 1 = .ok (.istore 7, 2) := by decide +kernel
theorem dX6_goOn_3 : decode cX6_goOn 3 = .ok (.iconst 0, 1) := by decide +kernel
theorem dX6_goOn_4 : decode cX6_goOn 4 = .ok (.istore 8, 2) := by decide +kernel
theorem dX6_goOn_6 : decode cX6_goOn 6 = .ok (.iload_n 2, 1) := by decide +kernel
theorem dX6_goOn_7 : decode cX6_goOn 7 = .ok (.bipush 6, 2) := by decide +kernel
theorem dX6_goOn_9 : decode cX6_goOn 9 = .ok (.if_icmp .ge 153, 3) := by decide +kernel
theorem dX6_goOn_12 : decode cX6_goOn 12 = .ok (.iload 8, 2) := by decide +kernel
theorem dX6_goOn_14 : decode cX6_goOn 14 = .ok (.aload_n 1, 1) := by decide +kernel
theorem dX6_goOn_15 : decode cX6_goOn 15 = .ok (.getfield 22, 3) := by decide +kernel
theorem dX6_goOn_18 : decode cX6_goOn 18 = .ok (.if_icmp .ge 144, 3) := by decide +kernel
theorem dX6_goOn_21 : decode cX6_goOn 21 = .ok (.aload_n 1, 1) := by decide +kernel
theorem dX6_goOn_22 : decode cX6_goOn 22 = .ok (.getfield 67, 3) := by decide +kernel
theorem dX6_goOn_25 : decode cX6_goOn 25 = .ok (.iload 8, 2) := by decide +kernel
theorem dX6_goOn_27 : decode cX6_goOn 27 = .ok (.iaload, 1) := by decide +kernel
theorem dX6_goOn_28 : decode cX6_goOn 28 = .ok (.istore 9, 2) := by decide +kernel
theorem dX6_goOn_30 : decode cX6_goOn 30 = .ok (.iload 9, 2) := by decide +kernel
theorem dX6_goOn_32 : decode cX6_goOn 32 = .ok (.iconst (-1), 1) := by decide +kernel
theorem dX6_goOn_33 : decode cX6_goOn 33 = .ok (.if_icmp .eq 17, 3) := by decide +kernel
theorem dX6_goOn_36 : decode cX6_goOn 36 = .ok (.iload 4, 2) := by decide +kernel
theorem dX6_goOn_38 : decode cX6_goOn 38 = .ok (.iload 9, 2) := by decide +kernel
theorem dX6_goOn_40 : decode cX6_goOn 40 = .ok (.ishr, 1) := by decide +kernel
theorem dX6_goOn_41 : decode cX6_goOn 41 = .ok (.iconst 1, 1) := by decide +kernel
theorem dX6_goOn_42 : decode cX6_goOn 42 = .ok (.iand, 1) := by decide +kernel
theorem dX6_goOn_43 : decode cX6_goOn 43 = .ok (.ifCond .ne 7, 3) := by decide +kernel
theorem dX6_goOn_46 : decode cX6_goOn 46 = .ok (.iconst 1, 1) := by decide +kernel
theorem dX6_goOn_47 : decode cX6_goOn 47 = .ok (.goto 4, 3) := by decide +kernel
theorem dX6_goOn_50 : decode cX6_goOn 50 = .ok (.iconst 0, 1) := by decide +kernel
theorem dX6_goOn_51 : decode cX6_goOn 51 = .ok (.istore 10, 2) := by decide +kernel
theorem dX6_goOn_53 : decode cX6_goOn 53 = .ok (.iload_n 3, 1) := by decide +kernel
theorem dX6_goOn_54 : decode cX6_goOn 54 = .ok (.iload 8, 2) := by decide +kernel
theorem dX6_goOn_56 : decode cX6_goOn 56 = .ok (.ishr, 1) := by decide +kernel
theorem dX6_goOn_57 : decode cX6_goOn 57 = .ok (.iconst 1, 1) := by decide +kernel
theorem dX6_goOn_58 : decode cX6_goOn 58 = .ok (.iand, 1) := by decide +kernel
theorem dX6_goOn_59 : decode cX6_goOn 59 = .ok (.ifCond .eq 97, 3) := by decide +kernel
theorem dX6_goOn_62 : decode cX6_goOn 62 = .ok (.iload 10, 2) := by decide +kernel
theorem dX6_goOn_64 : decode cX6_goOn 64 = .ok (.ifCond .eq 6, 3) := by decide +kernel
theorem dX6_goOn_70 : decode cX6_goOn 70 = .ok (.iconst 0, 1) := by decide +kernel
theorem dX6_goOn_71 : decode cX6_goOn 71 = .ok (.istore 7, 2) := by decide +kernel
theorem dX6_goOn_73 : decode cX6_goOn 73 = .ok (.aload_n 0, 1) := by decide +kernel
theorem dX6_goOn_74 : decode cX6_goOn 74 = .ok (.getfield 15, 3) := by decide +kernel
theorem dX6_goOn_77 : decode cX6_goOn 77 = .ok (.iload_n 2, 1) := by decide +kernel
theorem dX6_goOn_78 : decode cX6_goOn 78 = .ok (.iload 8, 2) := by decide +kernel
theorem dX6_goOn_80 : decode cX6_goOn 80 = .ok (.iastore, 1) := by decide +kernel
theorem dX6_goOn_81 : decode cX6_goOn 81 = .ok (.iload 5, 2) := by decide +kernel
theorem dX6_goOn_83 : decode cX6_goOn 83 = .ok (.aload_n 1, 1) := by decide +kernel
theorem dX6_goOn_84 : decode cX6_goOn 84 = .ok (.getfield 70, 3) := by decide +kernel
theorem dX6_goOn_87 : decode cX6_goOn 87 = .ok (.iload 8, 2) := by decide +kernel
theorem dX6_goOn_89 : decode cX6_goOn 89 = .ok (.iaload, 1) := by decide +kernel
theorem dX6_goOn_90 : decode cX6_goOn 90 = .ok (.iadd, 1) := by decide +kernel
theorem dX6_goOn_91 : decode cX6_goOn 91 = .ok (.istore 11, 2) := by decide +kernel
theorem dX6_goOn_93 : decode cX6_goOn 93 = .ok (.iload 11, 2) := by decide +kernel
theorem dX6_goOn_95 : decode cX6_goOn 95 = .ok (.aload_n 1, 1) := by decide +kernel
theorem dX6_goOn_96 : decode cX6_goOn 96 = .ok (.getfield 73, 3) := by decide +kernel
theorem dX6_goOn_99 : decode cX6_goOn 99 = .ok (.if_icmp .le 15, 3) := by decide +kernel
theorem dX6_goOn_114 : decode cX6_goOn 114 = .ok (.aload_n 0, 1) := by decide +kernel
theorem dX6_goOn_115 : decode cX6_goOn 115 = .ok (.getfield 18, 3) := by decide +kernel
theorem dX6_goOn_118 : decode cX6_goOn 118 = .ok (.iload 8, 2) := by decide +kernel
theorem dX6_goOn_120 : decode cX6_goOn 120 = .ok (.ishr, 1) := by decide +kernel
theorem dX6_goOn_121 : decode cX6_goOn 121 = .ok (.iconst 1, 1) := by decide +kernel
theorem dX6_goOn_122 : decode cX6_goOn 122 = .ok (.iand, 1) := by decide +kernel
theorem dX6_goOn_123 : decode cX6_goOn 123 = .ok (.istore 12, 2) := by decide +kernel
theorem dX6_goOn_125 : decode cX6_goOn 125 = .ok (.aload_n 0, 1) := by decide +kernel
theorem dX6_goOn_126 : decode cX6_goOn 126 = .ok (.aload_n 1, 1) := by decide +kernel
theorem dX6_goOn_127 : decode cX6_goOn 127 = .ok (.iload_n 2, 1) := by decide +kernel
theorem dX6_goOn_128 : decode cX6_goOn 128 = .ok (.iconst 1, 1) := by decide +kernel
theorem dX6_goOn_129 : decode cX6_goOn 129 = .ok (.iadd, 1) := by decide +kernel
theorem dX6_goOn_130 : decode cX6_goOn 130 = .ok (.iload_n 3, 1) := by decide +kernel
theorem dX6_goOn_131 : decode cX6_goOn 131 = .ok (.iconst 1, 1) := by decide +kernel
theorem dX6_goOn_132 : decode cX6_goOn 132 = .ok (.iload 8, 2) := by decide +kernel
theorem dX6_goOn_134 : decode cX6_goOn 134 = .ok (.ishl, 1) := by decide +kernel
theorem dX6_goOn_135 : decode cX6_goOn 135 = .ok (.iconst (-1), 1) := by decide +kernel
theorem dX6_goOn_136 : decode cX6_goOn 136 = .ok (.ixor, 1) := by decide +kernel
theorem dX6_goOn_137 : decode cX6_goOn 137 = .ok (.iand, 1) := by decide +kernel
theorem dX6_goOn_138 : decode cX6_goOn 138 = .ok (.iload 4, 2) := by decide +kernel
theorem dX6_goOn_140 : decode cX6_goOn 140 = .ok (.iload 12, 2) := by decide +kernel
theorem dX6_goOn_142 : decode cX6_goOn 142 = .ok (.iload 8, 2) := by decide +kernel
theorem dX6_goOn_144 : decode cX6_goOn 144 = .ok (.ishl, 1) := by decide +kernel
theorem dX6_goOn_145 : decode cX6_goOn 145 = .ok (.ior, 1) := by decide +kernel
theorem dX6_goOn_146 : decode cX6_goOn 146 = .ok (.iload 11, 2) := by decide +kernel
theorem dX6_goOn_148 : decode cX6_goOn 148 = .ok (.iload 6, 2) := by decide +kernel
theorem dX6_goOn_150 : decode cX6_goOn 150 = .ok (.iload 12, 2) := by decide +kernel
theorem dX6_goOn_152 : decode cX6_goOn 152 = .ok (.iadd, 1) := by decide +kernel
theorem dX6_goOn_153 : decode cX6_goOn 153 = .ok (.invokevirtual 63, 3) := by decide +kernel
theorem mwX6_goOn : MwV yX6_goOn cX6_goOn 13 none 6 := ⟨⟨kw832, kw12, by decide +kernel⟩, kw831, kS21⟩
theorem dX6_goOn_102 : decode cX6_goOn 102 = .ok (.aload_n 0, 1) := by decide +kernel
theorem dX6_goOn_103 : decode cX6_goOn 103 = .ok (.iload_n 2, 1) := by decide +kernel
theorem dX6_goOn_104 : decode cX6_goOn 104 = .ok (.iconst 1, 1) := by decide +kernel
theorem dX6_goOn_105 : decode cX6_goOn 105 = .ok (.iadd, 1) := by decide +kernel
theorem dX6_goOn_106 : decode cX6_goOn 106 = .ok (.iload 6, 2) := by decide +kernel
theorem dX6_goOn_108 : decode cX6_goOn 108 = .ok (.invokevirtual 56, 3) := by decide +kernel
theorem mwX6_keepIfBetter : MwV yX6_keepIfBetter cX6_keepIfBetter 3 none 2 := ⟨⟨kw827, kw12, by decide +kernel⟩, kw826, kS20⟩
theorem dX6_goOn_111 : decode cX6_goOn 111 = .ok (.goto 45, 3) := by decide +kernel
theorem dX6_goOn_67 : decode cX6_goOn 67 = .ok (.goto 89, 3) := by decide +kernel
theorem dX6_goOn_156 : decode cX6_goOn 156 = .ok (.iinc 8 1, 3) := by decide +kernel
theorem dX6_goOn_159 : decode cX6_goOn 159 = .ok (.goto (-153), 3) := by decide +kernel
theorem dX6_goOn_162 : decode cX6_goOn 162 = .ok (.iload 7, 2) := by decide +kernel
theorem dX6_goOn_164 : decode cX6_goOn 164 = .ok (.ifCond .eq 10, 3) := by decide +kernel
theorem dX6_goOn_174 : decode cX6_goOn 174 = .ok (.return_, 1) := by decide +kernel
theorem dX6_goOn_167 : decode cX6_goOn 167 = .ok (.aload_n 0, 1) := by decide +kernel
theorem dX6_goOn_168 : decode cX6_goOn 168 = .ok (.iload_n 2, 1) := by decide +kernel
theorem dX6_goOn_169 : decode cX6_goOn 169 = .ok (.iload 6, 2) := by decide +kernel
theorem dX6_goOn_171 : decode cX6_goOn 171 = .ok (.invokevirtual 56, 3) := by decide +kernel
set_option maxHeartbeats 4000000 in
set_option maxRecDepth 100000 in
theorem s_X6_goOn_n {l : Launch} {G : Gc} (n : Nat) : ∀ (qf : Nat) (qs : Nat) (a1 : Int32) (a2 : Int32) (a3 : Int32) (a4 : Int32) (a5 : Int32) (qf_bestPath : Nat) (qf_bestSize : Int32) (qf_bestPassed : Int32) (qf_path : Nat) (qf_passing : Int32) (qf_picture : Int32) (qf_behind : Int32) (qf_bestPath_c : Nat → Int32) (qf_path_c : Nat → Int32) (qs_slides : Int32) (qs_hearers : Int32) (qs_nears : Int32) (qs_lines : Int32) (qs_pass : Int32) (qs_spread : Int32) (qs_lamp : Int32) (qs_behind : Int32) (qs_settingsTold : Int32) (qs_slideNames : Nat) (qs_pictures : Nat) (qs_heats : Nat) (qs_after : Nat) (qs_hearerNames : Nat) (qs_needs : Nat) (qs_likes : Nat) (qs_hates : Nat) (qs_near : Nat) (qs_heats_c : Nat → Int32) (qs_after_c : Nat → Int32), (0 ≤ a1.toInt ∧ a1.toInt ≤ 6) → (0 ≤ qf_bestSize.toInt ∧ qf_bestSize.toInt ≤ 6) → (0 ≤ qs_slides.toInt ∧ qs_slides.toInt ≤ 6) → (0 ≤ qs_hearers.toInt ∧ qs_hearers.toInt ≤ 8) → (inA 6 (-1) 5 qs_after_c) → (6 - a1.toInt < (n : Int)) → Cv l yX6_goOn cX6_goOn 13 (3 + 1 * n) 0 0 G [.ref qf, .ref qs, .int a1, .int a2, .int a3, .int a4, .int a5] [(qf, .inr (5, [.ref qf_bestPath, .int qf_bestSize, .int qf_bestPassed, .ref qf_path, .int qf_passing, .int qf_picture, .int qf_behind])), (qf_bestPath, eI G 6 qf_bestPath_c), (qf_path, eI G 6 qf_path_c), (qs, .inr (4, [.int qs_slides, .int qs_hearers, .int qs_nears, .int qs_lines, .int qs_pass, .int qs_spread, .int qs_lamp, .int qs_behind, .int qs_settingsTold, .ref qs_slideNames, .ref qs_pictures, .ref qs_heats, .ref qs_after, .ref qs_hearerNames, .ref qs_needs, .ref qs_likes, .ref qs_hates, .ref qs_near])), (qs_heats, eI G 6 qs_heats_c), (qs_after, eI G 6 qs_after_c)] (fun (u9 : va_W) => ∃ (x0_qf_bestSize : Int32) (x1_qf_bestPassed : Int32) (x2_qf_bestPath_c : Nat → Int32) (x3_qf_path_c : Nat → Int32), u9 = [(qf, .inr (5, [.ref qf_bestPath, .int x0_qf_bestSize, .int x1_qf_bestPassed, .ref qf_path, .int qf_passing, .int qf_picture, .int qf_behind])), (qf_bestPath, eI G 6 x2_qf_bestPath_c), (qf_path, eI G 6 x3_qf_path_c), (qs, .inr (4, [.int qs_slides, .int qs_hearers, .int qs_nears, .int qs_lines, .int qs_pass, .int qs_spread, .int qs_lamp, .int qs_behind, .int qs_settingsTold, .ref qs_slideNames, .ref qs_pictures, .ref qs_heats, .ref qs_after, .ref qs_hearerNames, .ref qs_needs, .ref qs_likes, .ref qs_hates, .ref qs_near])), (qs_heats, eI G 6 qs_heats_c), (qs_after, eI G 6 qs_after_c)] ∧ (0 ≤ x0_qf_bestSize.toInt ∧ x0_qf_bestSize.toInt ≤ 6)) := by
  induction n with
  | zero => intro qf qs a1 a2 a3 a4 a5 qf_bestPath qf_bestSize qf_bestPassed qf_path qf_passing qf_picture qf_behind qf_bestPath_c qf_path_c qs_slides qs_hearers qs_nears qs_lines qs_pass qs_spread qs_lamp qs_behind qs_settingsTold qs_slideNames qs_pictures qs_heats qs_after qs_hearerNames qs_needs qs_likes qs_hates qs_near qs_heats_c qs_after_c hi_a1 hi_qf_bestSize hi_qs_slides hi_qs_hearers hf_qs_after_c hme; exfalso; omega
  | succ n ih =>
    intro qf qs a1 a2 a3 a4 a5 qf_bestPath qf_bestSize qf_bestPassed qf_path qf_passing qf_picture qf_behind qf_bestPath_c qf_path_c qs_slides qs_hearers qs_nears qs_lines qs_pass qs_spread qs_lamp qs_behind qs_settingsTold qs_slideNames qs_pictures qs_heats qs_after qs_hearerNames qs_needs qs_likes qs_hates qs_near qs_heats_c qs_after_c hi_a1 hi_qf_bestSize hi_qs_slides hi_qs_hearers hf_qs_after_c hme
    refine Cv.ofQ (by decide) (Nat.le_of_ble_eq_true rfl) ?_
    intro p e s m below meth c ls A args Q hQ B hw hl
    have C : CallFix p m c cX6_goOn 13 s args gw "LanternState$Search" := B.1
    have hl : lv_has ls 13 [(0, .ref qf), (1, .ref qs), (2, .int a1), (3, .int a2), (4, .int a3), (5, .int a4), (6, .int a5)] := hl
    refine lv_iconst (v := 1) C.1 C.2.1 dX6_goOn_0 (by decide) ?_
    refine lv_istore (lv' := [(7, .int 1), (0, .ref qf), (1, .ref qs), (2, .int a1), (3, .int a2), (4, .int a3), (5, .int a4), (6, .int a5)]) C.1 C.2.1 dX6_goOn_1 hl (by decide) rfl (fun ls hl => ?_)
    refine lv_iconst (v := 0) C.1 C.2.1 dX6_goOn_3 (by decide) ?_
    refine lv_istore (lv' := [(8, .int 0), (7, .int 1), (0, .ref qf), (1, .ref qs), (2, .int a1), (3, .int a2), (4, .int a3), (5, .int a4), (6, .int a5)]) C.1 C.2.1 dX6_goOn_4 hl (by decide) rfl (fun ls hl => ?_)
    have loopJ304 : ∀ (n9 : Nat) (j298 : Int32) (j299 : Int32) (j300 : Int32) (j301 : Int32) (j302 : Nat → Int32) (j303 : Nat → Int32), (2147483647 - j298.toInt).toNat < n9 → (0 ≤ j299.toInt ∧ j299.toInt ≤ 1) → (0 ≤ j300.toInt ∧ j300.toInt ≤ 6) → (0 ≤ j298.toInt ∧ j298.toInt ≤ 6) → ∀ (H : Heap) (locs : List Loc) (ls : Array Slot), Wd G s A [(qf, .inr (5, [.ref qf_bestPath, .int j300, .int j301, .ref qf_path, .int qf_passing, .int qf_picture, .int qf_behind])), (qf_bestPath, eI G 6 j302), (qf_path, eI G 6 j303), (qs, .inr (4, [.int qs_slides, .int qs_hearers, .int qs_nears, .int qs_lines, .int qs_pass, .int qs_spread, .int qs_lamp, .int qs_behind, .int qs_settingsTold, .ref qs_slideNames, .ref qs_pictures, .ref qs_heats, .ref qs_after, .ref qs_hearerNames, .ref qs_needs, .ref qs_likes, .ref qs_hates, .ref qs_near])), (qs_heats, eI G 6 qs_heats_c), (qs_after, eI G 6 qs_after_c)] H locs → lv_has ls 13 [(8, .int j298), (7, .int j299), (0, .ref qf), (1, .ref qs), (2, .int a1), (3, .int a2), (4, .int a3), (5, .int a4), (6, .int a5)] → W p l e (rmD (3 + 1 * (n + 1)) 0 0) s m args below meth c H locs 0 0 Q (F0 m 6 ls []) := by
      intro n9
      induction n9 with
      | zero => intro j298 j299 j300 j301 j302 j303 h9; exact absurd h9 (Nat.not_lt_zero _)
      | succ n9 ihJ304 =>
        intro j298 j299 j300 j301 j302 j303 h9J304 hJ304_0 hJ304_1 hJ304_2 H locs ls hw hl
        have hbj298 := i_bd j298
        refine lv_iload_n C.1 C.2.1 dX6_goOn_6 rfl (lv_at hl 4 rfl) ?_
        refine lv_bipush (v := 6) C.1 C.2.1 dX6_goOn_7 (by decide) ?_
        refine lv_icmp_ge (tgt := 162) C.1 C.2.1 dX6_goOn_9 (by decide) (fun c356 => ?_) (fun c356 => ?_)
        · skip
          have c356 : 6 ≤ a1.toInt := i_leT (X := 6) (Y := a1.toInt) rfl rfl c356
          refine lv_iload C.1 C.2.1 dX6_goOn_162 (lv_at hl 1 rfl) ?_
          refine lv_if_eq (tgt := 174) C.1 C.2.1 dX6_goOn_164 (by decide) (fun c357 => ?_) (fun c357 => ?_)
          · skip
            have c357 : j299.toInt = 0 := i_eqT (X := j299.toInt) (Y := 0) rfl rfl c357
            exact x_retvQ hQ B hw ⟨j300, j301, j302, j303, rfl, (by omega)⟩ (Nat.le_of_ble_eq_true rfl) (Nat.le_of_ble_eq_true rfl) dX6_goOn_174
          · skip
            have c357 : j299.toInt ≠ 0 := i_eqF (X := j299.toInt) (Y := 0) rfl rfl c357
            refine lv_aload_n C.1 C.2.1 dX6_goOn_167 rfl (lv_at hl 2 rfl) ?_
            refine lv_iload_n C.1 C.2.1 dX6_goOn_168 rfl (lv_at hl 4 rfl) ?_
            refine lv_iload C.1 C.2.1 dX6_goOn_169 (lv_at hl 8 rfl) ?_
            refine x_callvV (As := [.int a1, .int a5]) (rest := []) (wr := [(qs, .inr (4, [.int qs_slides, .int qs_hearers, .int qs_nears, .int qs_lines, .int qs_pass, .int qs_spread, .int qs_lamp, .int qs_behind, .int qs_settingsTold, .ref qs_slideNames, .ref qs_pictures, .ref qs_heats, .ref qs_after, .ref qs_hearerNames, .ref qs_needs, .ref qs_likes, .ref qs_hates, .ref qs_near])), (qs_heats, eI G 6 qs_heats_c), (qs_after, eI G 6 qs_after_c)]) C hw (s_X6_keepIfBetter qf a1 a5 qf_bestPath j300 j301 qf_path qf_passing qf_picture qf_behind j302 j303 (by omega) (by omega)) mwX6_keepIfBetter kw824 [0, 1, 2] [3, 4, 5] rfl rfl rfl rfl (by decide) 0 rfl rfl rfl rfl hl.1 rfl (Nat.le_of_ble_eq_true rfl) ⟨(by dsimp only [rmD]; omega), (by dsimp only [rmD]; omega)⟩ ⟨(Nat.le_of_ble_eq_true rfl), (Nat.le_of_ble_eq_true rfl)⟩ dX6_goOn_171 (fun  u9 H locs hp9 hw => ?_)
            obtain ⟨x358, x359, x360, rfl, hf361⟩ := hp9
            have hw : Wd G s A [(qs, .inr (4, [.int qs_slides, .int qs_hearers, .int qs_nears, .int qs_lines, .int qs_pass, .int qs_spread, .int qs_lamp, .int qs_behind, .int qs_settingsTold, .ref qs_slideNames, .ref qs_pictures, .ref qs_heats, .ref qs_after, .ref qs_hearerNames, .ref qs_needs, .ref qs_likes, .ref qs_hates, .ref qs_near])), (qs_heats, eI G 6 qs_heats_c), (qs_after, eI G 6 qs_after_c), (qf, .inr (5, [.ref qf_bestPath, .int x358, .int x359, .ref qf_path, .int qf_passing, .int qf_picture, .int qf_behind])), (qf_bestPath, eI G 6 x360), (qf_path, eI G 6 j303)] H _ := hw
            have hw := hw.sub (w' := [(qf, .inr (5, [.ref qf_bestPath, .int x358, .int x359, .ref qf_path, .int qf_passing, .int qf_picture, .int qf_behind])), (qf_bestPath, eI G 6 x360), (qf_path, eI G 6 j303), (qs, .inr (4, [.int qs_slides, .int qs_hearers, .int qs_nears, .int qs_lines, .int qs_pass, .int qs_spread, .int qs_lamp, .int qs_behind, .int qs_settingsTold, .ref qs_slideNames, .ref qs_pictures, .ref qs_heats, .ref qs_after, .ref qs_hearerNames, .ref qs_needs, .ref qs_likes, .ref qs_hates, .ref qs_near])), (qs_heats, eI G 6 qs_heats_c), (qs_after, eI G 6 qs_after_c)]) [3, 4, 5, 0, 1, 2] rfl rfl
            exact x_retvQ hQ B hw ⟨x358, x359, x360, j303, rfl, (by omega)⟩ (Nat.le_of_ble_eq_true rfl) (Nat.le_of_ble_eq_true rfl) dX6_goOn_174
        · skip
          have c356 : a1.toInt < 6 := i_leF (X := 6) (Y := a1.toInt) rfl rfl c356
          refine lv_iload C.1 C.2.1 dX6_goOn_12 (lv_at hl 0 rfl) ?_
          refine lv_aload_n C.1 C.2.1 dX6_goOn_14 rfl (lv_at hl 3 rfl) ?_
          refine x_get C hw iwX5 4 rfl 3 rfl 0 (by decide) kw148 rfl dX6_goOn_15 ?_
          refine lv_icmp_ge (tgt := 162) C.1 C.2.1 dX6_goOn_18 (by decide) (fun c362 => ?_) (fun c362 => ?_)
          · skip
            have c362 : qs_slides.toInt ≤ j298.toInt := i_leT (X := qs_slides.toInt) (Y := j298.toInt) rfl rfl c362
            refine lv_iload C.1 C.2.1 dX6_goOn_162 (lv_at hl 1 rfl) ?_
            refine lv_if_eq (tgt := 174) C.1 C.2.1 dX6_goOn_164 (by decide) (fun c363 => ?_) (fun c363 => ?_)
            · skip
              have c363 : j299.toInt = 0 := i_eqT (X := j299.toInt) (Y := 0) rfl rfl c363
              exact x_retvQ hQ B hw ⟨j300, j301, j302, j303, rfl, (by omega)⟩ (Nat.le_of_ble_eq_true rfl) (Nat.le_of_ble_eq_true rfl) dX6_goOn_174
            · skip
              have c363 : j299.toInt ≠ 0 := i_eqF (X := j299.toInt) (Y := 0) rfl rfl c363
              refine lv_aload_n C.1 C.2.1 dX6_goOn_167 rfl (lv_at hl 2 rfl) ?_
              refine lv_iload_n C.1 C.2.1 dX6_goOn_168 rfl (lv_at hl 4 rfl) ?_
              refine lv_iload C.1 C.2.1 dX6_goOn_169 (lv_at hl 8 rfl) ?_
              refine x_callvV (As := [.int a1, .int a5]) (rest := []) (wr := [(qs, .inr (4, [.int qs_slides, .int qs_hearers, .int qs_nears, .int qs_lines, .int qs_pass, .int qs_spread, .int qs_lamp, .int qs_behind, .int qs_settingsTold, .ref qs_slideNames, .ref qs_pictures, .ref qs_heats, .ref qs_after, .ref qs_hearerNames, .ref qs_needs, .ref qs_likes, .ref qs_hates, .ref qs_near])), (qs_heats, eI G 6 qs_heats_c), (qs_after, eI G 6 qs_after_c)]) C hw (s_X6_keepIfBetter qf a1 a5 qf_bestPath j300 j301 qf_path qf_passing qf_picture qf_behind j302 j303 (by omega) (by omega)) mwX6_keepIfBetter kw824 [0, 1, 2] [3, 4, 5] rfl rfl rfl rfl (by decide) 0 rfl rfl rfl rfl hl.1 rfl (Nat.le_of_ble_eq_true rfl) ⟨(by dsimp only [rmD]; omega), (by dsimp only [rmD]; omega)⟩ ⟨(Nat.le_of_ble_eq_true rfl), (Nat.le_of_ble_eq_true rfl)⟩ dX6_goOn_171 (fun  u9 H locs hp9 hw => ?_)
              obtain ⟨x364, x365, x366, rfl, hf367⟩ := hp9
              have hw : Wd G s A [(qs, .inr (4, [.int qs_slides, .int qs_hearers, .int qs_nears, .int qs_lines, .int qs_pass, .int qs_spread, .int qs_lamp, .int qs_behind, .int qs_settingsTold, .ref qs_slideNames, .ref qs_pictures, .ref qs_heats, .ref qs_after, .ref qs_hearerNames, .ref qs_needs, .ref qs_likes, .ref qs_hates, .ref qs_near])), (qs_heats, eI G 6 qs_heats_c), (qs_after, eI G 6 qs_after_c), (qf, .inr (5, [.ref qf_bestPath, .int x364, .int x365, .ref qf_path, .int qf_passing, .int qf_picture, .int qf_behind])), (qf_bestPath, eI G 6 x366), (qf_path, eI G 6 j303)] H _ := hw
              have hw := hw.sub (w' := [(qf, .inr (5, [.ref qf_bestPath, .int x364, .int x365, .ref qf_path, .int qf_passing, .int qf_picture, .int qf_behind])), (qf_bestPath, eI G 6 x366), (qf_path, eI G 6 j303), (qs, .inr (4, [.int qs_slides, .int qs_hearers, .int qs_nears, .int qs_lines, .int qs_pass, .int qs_spread, .int qs_lamp, .int qs_behind, .int qs_settingsTold, .ref qs_slideNames, .ref qs_pictures, .ref qs_heats, .ref qs_after, .ref qs_hearerNames, .ref qs_needs, .ref qs_likes, .ref qs_hates, .ref qs_near])), (qs_heats, eI G 6 qs_heats_c), (qs_after, eI G 6 qs_after_c)]) [3, 4, 5, 0, 1, 2] rfl rfl
              exact x_retvQ hQ B hw ⟨x364, x365, x366, j303, rfl, (by omega)⟩ (Nat.le_of_ble_eq_true rfl) (Nat.le_of_ble_eq_true rfl) dX6_goOn_174
          · skip
            have c362 : j298.toInt < qs_slides.toInt := i_leF (X := qs_slides.toInt) (Y := j298.toInt) rfl rfl c362
            refine lv_aload_n C.1 C.2.1 dX6_goOn_21 rfl (lv_at hl 3 rfl) ?_
            refine x_get C hw iwX5 4 rfl 3 rfl 12 (by decide) kw181 rfl dX6_goOn_22 ?_
            refine lv_iload C.1 C.2.1 dX6_goOn_25 (lv_at hl 0 rfl) ?_
            refine x_iald (v := (qs_after_c j298.toNatClampNeg)) C hw 5 rfl (i_in (by omega) (by omega)) rfl dX6_goOn_27 (x_genP (fun z : Int32 => -1 ≤ z.toInt ∧ z.toInt ≤ 5) (hf_qs_after_c _ (i_cl (by omega) (by omega))) (fun v368 hv368 => ?_))
            refine lv_istore (lv' := [(9, .int v368), (8, .int j298), (7, .int j299), (0, .ref qf), (1, .ref qs), (2, .int a1), (3, .int a2), (4, .int a3), (5, .int a4), (6, .int a5)]) C.1 C.2.1 dX6_goOn_28 hl (by decide) rfl (fun ls hl => ?_)
            refine lv_iload C.1 C.2.1 dX6_goOn_30 (lv_at hl 0 rfl) ?_
            refine lv_iconst (v := (-1)) C.1 C.2.1 dX6_goOn_32 (by decide) ?_
            have J375 : ∀ (j374 : Int32), (0 ≤ j374.toInt ∧ j374.toInt ≤ 1) → ∀ (H : Heap) (locs : List Loc) (ls : Array Slot), Wd G s A [(qf, .inr (5, [.ref qf_bestPath, .int j300, .int j301, .ref qf_path, .int qf_passing, .int qf_picture, .int qf_behind])), (qf_bestPath, eI G 6 j302), (qf_path, eI G 6 j303), (qs, .inr (4, [.int qs_slides, .int qs_hearers, .int qs_nears, .int qs_lines, .int qs_pass, .int qs_spread, .int qs_lamp, .int qs_behind, .int qs_settingsTold, .ref qs_slideNames, .ref qs_pictures, .ref qs_heats, .ref qs_after, .ref qs_hearerNames, .ref qs_needs, .ref qs_likes, .ref qs_hates, .ref qs_near])), (qs_heats, eI G 6 qs_heats_c), (qs_after, eI G 6 qs_after_c)] H locs → lv_has ls 13 [(8, .int j298), (7, .int j299), (0, .ref qf), (1, .ref qs), (2, .int a1), (3, .int a2), (4, .int a3), (5, .int a4), (6, .int a5)] → W p l e (rmD (3 + 1 * (n + 1)) 0 0) s m args below meth c H locs 0 0 Q (F0 m 51 ls [.int j374]) := by
              intro j374 hJ375_0 H locs ls hw hl
              refine lv_istore (lv' := [(10, .int j374), (8, .int j298), (7, .int j299), (0, .ref qf), (1, .ref qs), (2, .int a1), (3, .int a2), (4, .int a3), (5, .int a4), (6, .int a5)]) C.1 C.2.1 dX6_goOn_51 hl (by decide) rfl (fun ls hl => ?_)
              refine lv_iload_n C.1 C.2.1 dX6_goOn_53 rfl (lv_at hl 6 rfl) ?_
              refine lv_iload C.1 C.2.1 dX6_goOn_54 (lv_at hl 1 rfl) ?_
              refine lv_ishr C.1 C.2.1 dX6_goOn_56 (x_gen (fun v410 => ?_))
              refine lv_iconst (v := 1) C.1 C.2.1 dX6_goOn_57 (by decide) ?_
              refine lv_iand C.1 C.2.1 dX6_goOn_58 (x_genP (fun z : Int32 => 0 ≤ z.toInt ∧ z.toInt ≤ 1) (i_andR 1 rfl (by decide) rfl) (fun v411 hv411 => ?_))
              have J442 : ∀ (j437 : Int32) (j438 : Int32) (j439 : Int32) (j440 : Nat → Int32) (j441 : Nat → Int32), (0 ≤ j437.toInt ∧ j437.toInt ≤ 1) → (0 ≤ j438.toInt ∧ j438.toInt ≤ 6) → ∀ (H : Heap) (locs : List Loc) (ls : Array Slot), Wd G s A [(qf, .inr (5, [.ref qf_bestPath, .int j438, .int j439, .ref qf_path, .int qf_passing, .int qf_picture, .int qf_behind])), (qf_bestPath, eI G 6 j440), (qf_path, eI G 6 j441), (qs, .inr (4, [.int qs_slides, .int qs_hearers, .int qs_nears, .int qs_lines, .int qs_pass, .int qs_spread, .int qs_lamp, .int qs_behind, .int qs_settingsTold, .ref qs_slideNames, .ref qs_pictures, .ref qs_heats, .ref qs_after, .ref qs_hearerNames, .ref qs_needs, .ref qs_likes, .ref qs_hates, .ref qs_near])), (qs_heats, eI G 6 qs_heats_c), (qs_after, eI G 6 qs_after_c)] H locs → lv_has ls 13 [(8, .int j298), (7, .int j437), (0, .ref qf), (1, .ref qs), (2, .int a1), (3, .int a2), (4, .int a3), (5, .int a4), (6, .int a5)] → W p l e (rmD (3 + 1 * (n + 1)) 0 0) s m args below meth c H locs 0 0 Q (F0 m 156 ls []) := by
                intro j437 j438 j439 j440 j441 hJ442_0 hJ442_1 H locs ls hw hl
                obtain ⟨v444, ev444⟩ : ∃ z : Int32, j298 + 1 = z := ⟨_, rfl⟩
                have hv444 : v444.toInt = j298.toInt + 1 := by rw [← ev444]; exact i_add rfl rfl (by omega) (by omega)
                refine lv_iinc (v := v444) (lv' := [(8, .int v444), (7, .int j437), (0, .ref qf), (1, .ref qs), (2, .int a1), (3, .int a2), (4, .int a3), (5, .int a4), (6, .int a5)]) C.1 C.2.1 dX6_goOn_156 hl (k := 0) rfl ev444 (by decide) rfl (fun ls hl => ?_)
                refine lv_goto (tgt := 6) C.1 C.2.1 dX6_goOn_159 (by decide) ?_
                exact ihJ304 v444 j437 j438 j439 j440 j441 (by omega) (by omega) (by omega) (by omega) _ _ _ hw (lv_sub hl [0, 1, 2, 3, 4, 5, 6, 7, 8] rfl)
              refine lv_if_eq (tgt := 156) C.1 C.2.1 dX6_goOn_59 (by decide) (fun c412 => ?_) (fun c412 => ?_)
              · skip
                have c412 : v411.toInt = 0 := i_eqT (X := v411.toInt) (Y := 0) rfl rfl c412
                exact J442 j299 j300 j301 j302 j303  (by omega) (by omega) _ _ _ hw (lv_sub hl [1, 2, 3, 4, 5, 6, 7, 8, 9] rfl)
              · skip
                have c412 : v411.toInt ≠ 0 := i_eqF (X := v411.toInt) (Y := 0) rfl rfl c412
                refine lv_iload C.1 C.2.1 dX6_goOn_62 (lv_at hl 0 rfl) ?_
                refine lv_if_eq (tgt := 70) C.1 C.2.1 dX6_goOn_64 (by decide) (fun c445 => ?_) (fun c445 => ?_)
                · skip
                  have c445 : j374.toInt = 0 := i_eqT (X := j374.toInt) (Y := 0) rfl rfl c445
                  refine lv_iconst (v := 0) C.1 C.2.1 dX6_goOn_70 (by decide) ?_
                  refine lv_istore (lv' := [(7, .int 0), (10, .int j374), (8, .int j298), (0, .ref qf), (1, .ref qs), (2, .int a1), (3, .int a2), (4, .int a3), (5, .int a4), (6, .int a5)]) C.1 C.2.1 dX6_goOn_71 hl (by decide) rfl (fun ls hl => ?_)
                  refine lv_aload_n C.1 C.2.1 dX6_goOn_73 rfl (lv_at hl 3 rfl) ?_
                  refine x_get C hw iwX6 5 rfl 0 rfl 3 (by decide) kw382 rfl dX6_goOn_74 ?_
                  refine lv_iload_n C.1 C.2.1 dX6_goOn_77 rfl (lv_at hl 5 rfl) ?_
                  refine lv_iload C.1 C.2.1 dX6_goOn_78 (lv_at hl 2 rfl) ?_
                  obtain ⟨g446, eg446⟩ : ∃ z, upd j303 (a1.toNatClampNeg) j298 = z := ⟨_, rfl⟩
                  refine x_iast (f' := g446) (w' := [(qf, .inr (5, [.ref qf_bestPath, .int j300, .int j301, .ref qf_path, .int qf_passing, .int qf_picture, .int qf_behind])), (qf_bestPath, eI G 6 j302), (qf_path, eI G 6 g446), (qs, .inr (4, [.int qs_slides, .int qs_hearers, .int qs_nears, .int qs_lines, .int qs_pass, .int qs_spread, .int qs_lamp, .int qs_behind, .int qs_settingsTold, .ref qs_slideNames, .ref qs_pictures, .ref qs_heats, .ref qs_after, .ref qs_hearerNames, .ref qs_needs, .ref qs_likes, .ref qs_hates, .ref qs_near])), (qs_heats, eI G 6 qs_heats_c), (qs_after, eI G 6 qs_after_c)]) C hw 2 rfl (i_in (by omega) (by omega)) eg446 rfl dX6_goOn_80 (fun H locs hw => ?_)
                  refine lv_iload C.1 C.2.1 dX6_goOn_81 (lv_at hl 8 rfl) ?_
                  refine lv_aload_n C.1 C.2.1 dX6_goOn_83 rfl (lv_at hl 4 rfl) ?_
                  refine x_get C hw iwX5 4 rfl 3 rfl 11 (by decide) kw176 rfl dX6_goOn_84 ?_
                  refine lv_iload C.1 C.2.1 dX6_goOn_87 (lv_at hl 2 rfl) ?_
                  refine x_iald (v := (qs_heats_c j298.toNatClampNeg)) C hw 4 rfl (i_in (by omega) (by omega)) rfl dX6_goOn_89 (x_gen (fun v447 => ?_))
                  refine lv_iadd C.1 C.2.1 dX6_goOn_90 (x_gen (fun v448 => ?_))
                  refine lv_istore (lv' := [(11, .int v448), (7, .int 0), (10, .int j374), (8, .int j298), (0, .ref qf), (1, .ref qs), (2, .int a1), (3, .int a2), (4, .int a3), (5, .int a4), (6, .int a5)]) C.1 C.2.1 dX6_goOn_91 hl (by decide) rfl (fun ls hl => ?_)
                  refine lv_iload C.1 C.2.1 dX6_goOn_93 (lv_at hl 0 rfl) ?_
                  refine lv_aload_n C.1 C.2.1 dX6_goOn_95 rfl (lv_at hl 5 rfl) ?_
                  refine x_get C hw iwX5 4 rfl 3 rfl 6 (by decide) kw165 rfl dX6_goOn_96 ?_
                  refine lv_icmp_le (tgt := 114) C.1 C.2.1 dX6_goOn_99 (by decide) (fun c449 => ?_) (fun c449 => ?_)
                  · skip
                    have c449 : v448.toInt ≤ qs_lamp.toInt := i_leT (X := v448.toInt) (Y := qs_lamp.toInt) rfl rfl c449
                    have bc449_v448 := i_bd v448
                    have bc449_qs_lamp := i_bd qs_lamp
                    refine lv_aload_n C.1 C.2.1 dX6_goOn_114 rfl (lv_at hl 4 rfl) ?_
                    refine x_get C hw iwX6 5 rfl 0 rfl 4 (by decide) kw383 rfl dX6_goOn_115 ?_
                    refine lv_iload C.1 C.2.1 dX6_goOn_118 (lv_at hl 3 rfl) ?_
                    refine lv_ishr C.1 C.2.1 dX6_goOn_120 (x_gen (fun v450 => ?_))
                    refine lv_iconst (v := 1) C.1 C.2.1 dX6_goOn_121 (by decide) ?_
                    refine lv_iand C.1 C.2.1 dX6_goOn_122 (x_genP (fun z : Int32 => 0 ≤ z.toInt ∧ z.toInt ≤ 1) (i_andR 1 rfl (by decide) rfl) (fun v451 hv451 => ?_))
                    refine lv_istore (lv' := [(12, .int v451), (11, .int v448), (7, .int 0), (10, .int j374), (8, .int j298), (0, .ref qf), (1, .ref qs), (2, .int a1), (3, .int a2), (4, .int a3), (5, .int a4), (6, .int a5)]) C.1 C.2.1 dX6_goOn_123 hl (by decide) rfl (fun ls hl => ?_)
                    refine lv_aload_n C.1 C.2.1 dX6_goOn_125 rfl (lv_at hl 5 rfl) ?_
                    refine lv_aload_n C.1 C.2.1 dX6_goOn_126 rfl (lv_at hl 6 rfl) ?_
                    refine lv_iload_n C.1 C.2.1 dX6_goOn_127 rfl (lv_at hl 7 rfl) ?_
                    refine lv_iconst (v := 1) C.1 C.2.1 dX6_goOn_128 (by decide) ?_
                    refine lv_iadd C.1 C.2.1 dX6_goOn_129 (x_genP (fun z : Int32 => z.toInt = a1.toInt + 1) (i_add (X := a1.toInt) (Y := 1) rfl rfl (by omega) (by omega)) (fun v452 hv452 => ?_))
                    refine lv_iload_n C.1 C.2.1 dX6_goOn_130 rfl (lv_at hl 8 rfl) ?_
                    refine lv_iconst (v := 1) C.1 C.2.1 dX6_goOn_131 (by decide) ?_
                    refine lv_iload C.1 C.2.1 dX6_goOn_132 (lv_at hl 4 rfl) ?_
                    refine lv_ishl C.1 C.2.1 dX6_goOn_134 (x_genP (fun z : Int32 => 1 ≤ z.toInt ∧ z.toInt ≤ 256) (i_shl1 (by omega) (by omega)) (fun v453 hv453 => ?_))
                    refine lv_iconst (v := (-1)) C.1 C.2.1 dX6_goOn_135 (by decide) ?_
                    refine lv_ixor C.1 C.2.1 dX6_goOn_136 (x_gen (fun v454 => ?_))
                    refine lv_iand C.1 C.2.1 dX6_goOn_137 (x_gen (fun v455 => ?_))
                    refine lv_iload C.1 C.2.1 dX6_goOn_138 (lv_at hl 9 rfl) ?_
                    refine lv_iload C.1 C.2.1 dX6_goOn_140 (lv_at hl 0 rfl) ?_
                    refine lv_iload C.1 C.2.1 dX6_goOn_142 (lv_at hl 4 rfl) ?_
                    refine lv_ishl C.1 C.2.1 dX6_goOn_144 (x_gen (fun v456 => ?_))
                    refine lv_ior C.1 C.2.1 dX6_goOn_145 (x_gen (fun v457 => ?_))
                    refine lv_iload C.1 C.2.1 dX6_goOn_146 (lv_at hl 1 rfl) ?_
                    refine lv_iload C.1 C.2.1 dX6_goOn_148 (lv_at hl 11 rfl) ?_
                    refine lv_iload C.1 C.2.1 dX6_goOn_150 (lv_at hl 0 rfl) ?_
                    refine lv_iadd C.1 C.2.1 dX6_goOn_152 (x_gen (fun v458 => ?_))
                    refine x_callvV (As := [.ref qs, .int v452, .int v455, .int v457, .int v448, .int v458]) (rest := []) (wr := []) C hw (ih qf qs v452 v455 v457 v448 v458 qf_bestPath j300 j301 qf_path qf_passing qf_picture qf_behind j302 g446 qs_slides qs_hearers qs_nears qs_lines qs_pass qs_spread qs_lamp qs_behind qs_settingsTold qs_slideNames qs_pictures qs_heats qs_after qs_hearerNames qs_needs qs_likes qs_hates qs_near qs_heats_c qs_after_c (by omega) (by omega) (by omega) (by omega) hf_qs_after_c (by omega)) mwX6_goOn kw829 [0, 1, 2, 3, 4, 5] [] rfl rfl rfl rfl (by decide) 0 rfl rfl rfl rfl hl.1 rfl (Nat.le_of_ble_eq_true rfl) ⟨(by dsimp only [rmD]; omega), (by dsimp only [rmD]; omega)⟩ ⟨(Nat.le_of_ble_eq_true rfl), (Nat.le_of_ble_eq_true rfl)⟩ dX6_goOn_153 (fun  u9 H locs hp9 hw => ?_)
                    obtain ⟨x459, x460, x461, x462, rfl, hf463⟩ := hp9
                    have hw : Wd G s A [(qf, .inr (5, [.ref qf_bestPath, .int x459, .int x460, .ref qf_path, .int qf_passing, .int qf_picture, .int qf_behind])), (qf_bestPath, eI G 6 x461), (qf_path, eI G 6 x462), (qs, .inr (4, [.int qs_slides, .int qs_hearers, .int qs_nears, .int qs_lines, .int qs_pass, .int qs_spread, .int qs_lamp, .int qs_behind, .int qs_settingsTold, .ref qs_slideNames, .ref qs_pictures, .ref qs_heats, .ref qs_after, .ref qs_hearerNames, .ref qs_needs, .ref qs_likes, .ref qs_hates, .ref qs_near])), (qs_heats, eI G 6 qs_heats_c), (qs_after, eI G 6 qs_after_c)] H _ := hw
                    exact J442 0 x459 x460 x461 x462  (by decide) (by omega) _ _ _ hw (lv_sub hl [4, 2, 5, 6, 7, 8, 9, 10, 11] rfl)
                  · skip
                    have c449 : qs_lamp.toInt < v448.toInt := i_leF (X := v448.toInt) (Y := qs_lamp.toInt) rfl rfl c449
                    have bc449_v448 := i_bd v448
                    have bc449_qs_lamp := i_bd qs_lamp
                    refine lv_aload_n C.1 C.2.1 dX6_goOn_102 rfl (lv_at hl 4 rfl) ?_
                    refine lv_iload_n C.1 C.2.1 dX6_goOn_103 rfl (lv_at hl 6 rfl) ?_
                    refine lv_iconst (v := 1) C.1 C.2.1 dX6_goOn_104 (by decide) ?_
                    refine lv_iadd C.1 C.2.1 dX6_goOn_105 (x_genP (fun z : Int32 => z.toInt = a1.toInt + 1) (i_add (X := a1.toInt) (Y := 1) rfl rfl (by omega) (by omega)) (fun v464 hv464 => ?_))
                    refine lv_iload C.1 C.2.1 dX6_goOn_106 (lv_at hl 10 rfl) ?_
                    refine x_callvV (As := [.int v464, .int a5]) (rest := []) (wr := [(qs, .inr (4, [.int qs_slides, .int qs_hearers, .int qs_nears, .int qs_lines, .int qs_pass, .int qs_spread, .int qs_lamp, .int qs_behind, .int qs_settingsTold, .ref qs_slideNames, .ref qs_pictures, .ref qs_heats, .ref qs_after, .ref qs_hearerNames, .ref qs_needs, .ref qs_likes, .ref qs_hates, .ref qs_near])), (qs_heats, eI G 6 qs_heats_c), (qs_after, eI G 6 qs_after_c)]) C hw (s_X6_keepIfBetter qf v464 a5 qf_bestPath j300 j301 qf_path qf_passing qf_picture qf_behind j302 g446 (by omega) (by omega)) mwX6_keepIfBetter kw824 [0, 1, 2] [3, 4, 5] rfl rfl rfl rfl (by decide) 0 rfl rfl rfl rfl hl.1 rfl (Nat.le_of_ble_eq_true rfl) ⟨(by dsimp only [rmD]; omega), (by dsimp only [rmD]; omega)⟩ ⟨(Nat.le_of_ble_eq_true rfl), (Nat.le_of_ble_eq_true rfl)⟩ dX6_goOn_108 (fun  u9 H locs hp9 hw => ?_)
                    obtain ⟨x465, x466, x467, rfl, hf468⟩ := hp9
                    have hw : Wd G s A [(qs, .inr (4, [.int qs_slides, .int qs_hearers, .int qs_nears, .int qs_lines, .int qs_pass, .int qs_spread, .int qs_lamp, .int qs_behind, .int qs_settingsTold, .ref qs_slideNames, .ref qs_pictures, .ref qs_heats, .ref qs_after, .ref qs_hearerNames, .ref qs_needs, .ref qs_likes, .ref qs_hates, .ref qs_near])), (qs_heats, eI G 6 qs_heats_c), (qs_after, eI G 6 qs_after_c), (qf, .inr (5, [.ref qf_bestPath, .int x465, .int x466, .ref qf_path, .int qf_passing, .int qf_picture, .int qf_behind])), (qf_bestPath, eI G 6 x467), (qf_path, eI G 6 g446)] H _ := hw
                    refine lv_goto (tgt := 156) C.1 C.2.1 dX6_goOn_111 (by decide) ?_
                    have hw := hw.sub (w' := [(qf, .inr (5, [.ref qf_bestPath, .int x465, .int x466, .ref qf_path, .int qf_passing, .int qf_picture, .int qf_behind])), (qf_bestPath, eI G 6 x467), (qf_path, eI G 6 g446), (qs, .inr (4, [.int qs_slides, .int qs_hearers, .int qs_nears, .int qs_lines, .int qs_pass, .int qs_spread, .int qs_lamp, .int qs_behind, .int qs_settingsTold, .ref qs_slideNames, .ref qs_pictures, .ref qs_heats, .ref qs_after, .ref qs_hearerNames, .ref qs_needs, .ref qs_likes, .ref qs_hates, .ref qs_near])), (qs_heats, eI G 6 qs_heats_c), (qs_after, eI G 6 qs_after_c)]) [3, 4, 5, 0, 1, 2] rfl rfl
                    exact J442 0 x465 x466 x467 g446  (by decide) (by omega) _ _ _ hw (lv_sub hl [3, 1, 4, 5, 6, 7, 8, 9, 10] rfl)
                · skip
                  have c445 : j374.toInt ≠ 0 := i_eqF (X := j374.toInt) (Y := 0) rfl rfl c445
                  refine lv_goto (tgt := 156) C.1 C.2.1 dX6_goOn_67 (by decide) ?_
                  exact J442 j299 j300 j301 j302 j303  (by omega) (by omega) _ _ _ hw (lv_sub hl [1, 2, 3, 4, 5, 6, 7, 8, 9] rfl)
            have J373 : ∀ (H : Heap) (locs : List Loc) (ls : Array Slot), Wd G s A [(qf, .inr (5, [.ref qf_bestPath, .int j300, .int j301, .ref qf_path, .int qf_passing, .int qf_picture, .int qf_behind])), (qf_bestPath, eI G 6 j302), (qf_path, eI G 6 j303), (qs, .inr (4, [.int qs_slides, .int qs_hearers, .int qs_nears, .int qs_lines, .int qs_pass, .int qs_spread, .int qs_lamp, .int qs_behind, .int qs_settingsTold, .ref qs_slideNames, .ref qs_pictures, .ref qs_heats, .ref qs_after, .ref qs_hearerNames, .ref qs_needs, .ref qs_likes, .ref qs_hates, .ref qs_near])), (qs_heats, eI G 6 qs_heats_c), (qs_after, eI G 6 qs_after_c)] H locs → lv_has ls 13 [(8, .int j298), (7, .int j299), (0, .ref qf), (1, .ref qs), (2, .int a1), (3, .int a2), (4, .int a3), (5, .int a4), (6, .int a5)] → W p l e (rmD (3 + 1 * (n + 1)) 0 0) s m args below meth c H locs 0 0 Q (F0 m 50 ls []) := by
              intro   H locs ls hw hl
              refine lv_iconst (v := 0) C.1 C.2.1 dX6_goOn_50 (by decide) ?_
              exact J375 0  (by decide) _ _ _ hw (lv_sub hl [0, 1, 2, 3, 4, 5, 6, 7, 8] rfl)
            refine lv_icmp_eq (tgt := 50) C.1 C.2.1 dX6_goOn_33 (by decide) (fun c369 => ?_) (fun c369 => ?_)
            · skip
              have c369 : v368.toInt = (-1) := i_eqT (X := v368.toInt) (Y := (-1)) rfl rfl c369
              exact J373    _ _ _ hw (lv_sub hl [1, 2, 3, 4, 5, 6, 7, 8, 9] rfl)
            · skip
              have c369 : v368.toInt ≠ (-1) := i_eqF (X := v368.toInt) (Y := (-1)) rfl rfl c369
              refine lv_iload C.1 C.2.1 dX6_goOn_36 (lv_at hl 7 rfl) ?_
              refine lv_iload C.1 C.2.1 dX6_goOn_38 (lv_at hl 0 rfl) ?_
              refine lv_ishr C.1 C.2.1 dX6_goOn_40 (x_gen (fun v469 => ?_))
              refine lv_iconst (v := 1) C.1 C.2.1 dX6_goOn_41 (by decide) ?_
              refine lv_iand C.1 C.2.1 dX6_goOn_42 (x_genP (fun z : Int32 => 0 ≤ z.toInt ∧ z.toInt ≤ 1) (i_andR 1 rfl (by decide) rfl) (fun v470 hv470 => ?_))
              refine lv_if_ne (tgt := 50) C.1 C.2.1 dX6_goOn_43 (by decide) (fun c471 => ?_) (fun c471 => ?_)
              · skip
                have c471 : v470.toInt ≠ 0 := i_eqF (X := v470.toInt) (Y := 0) rfl rfl c471
                exact J373    _ _ _ hw (lv_sub hl [1, 2, 3, 4, 5, 6, 7, 8, 9] rfl)
              · skip
                have c471 : v470.toInt = 0 := i_eqT (X := v470.toInt) (Y := 0) rfl rfl c471
                refine lv_iconst (v := 1) C.1 C.2.1 dX6_goOn_46 (by decide) ?_
                refine lv_goto (tgt := 51) C.1 C.2.1 dX6_goOn_47 (by decide) ?_
                exact J375 1  (by decide) _ _ _ hw (lv_sub hl [1, 2, 3, 4, 5, 6, 7, 8, 9] rfl)
    exact loopJ304 _ 0 1 qf_bestSize qf_bestPassed qf_bestPath_c qf_path_c (Nat.lt_succ_self _) (by decide) (by omega) (by decide) _ _ _ hw (lv_sub hl [0, 1, 2, 3, 4, 5, 6, 7, 8] rfl)
theorem s_X6_goOn {l : Launch} {G : Gc} (qf : Nat) (qs : Nat) (a1 : Int32) (a2 : Int32) (a3 : Int32) (a4 : Int32) (a5 : Int32) (qf_bestPath : Nat) (qf_bestSize : Int32) (qf_bestPassed : Int32) (qf_path : Nat) (qf_passing : Int32) (qf_picture : Int32) (qf_behind : Int32) (qf_bestPath_c : Nat → Int32) (qf_path_c : Nat → Int32) (qs_slides : Int32) (qs_hearers : Int32) (qs_nears : Int32) (qs_lines : Int32) (qs_pass : Int32) (qs_spread : Int32) (qs_lamp : Int32) (qs_behind : Int32) (qs_settingsTold : Int32) (qs_slideNames : Nat) (qs_pictures : Nat) (qs_heats : Nat) (qs_after : Nat) (qs_hearerNames : Nat) (qs_needs : Nat) (qs_likes : Nat) (qs_hates : Nat) (qs_near : Nat) (qs_heats_c : Nat → Int32) (qs_after_c : Nat → Int32) (hi_a1 : 0 ≤ a1.toInt ∧ a1.toInt ≤ 6) (hi_qf_bestSize : 0 ≤ qf_bestSize.toInt ∧ qf_bestSize.toInt ≤ 6) (hi_qs_slides : 0 ≤ qs_slides.toInt ∧ qs_slides.toInt ≤ 6) (hi_qs_hearers : 0 ≤ qs_hearers.toInt ∧ qs_hearers.toInt ≤ 8) (hf_qs_after_c : inA 6 (-1) 5 qs_after_c) : Cv l yX6_goOn cX6_goOn 13 10 0 0 G [.ref qf, .ref qs, .int a1, .int a2, .int a3, .int a4, .int a5] [(qf, .inr (5, [.ref qf_bestPath, .int qf_bestSize, .int qf_bestPassed, .ref qf_path, .int qf_passing, .int qf_picture, .int qf_behind])), (qf_bestPath, eI G 6 qf_bestPath_c), (qf_path, eI G 6 qf_path_c), (qs, .inr (4, [.int qs_slides, .int qs_hearers, .int qs_nears, .int qs_lines, .int qs_pass, .int qs_spread, .int qs_lamp, .int qs_behind, .int qs_settingsTold, .ref qs_slideNames, .ref qs_pictures, .ref qs_heats, .ref qs_after, .ref qs_hearerNames, .ref qs_needs, .ref qs_likes, .ref qs_hates, .ref qs_near])), (qs_heats, eI G 6 qs_heats_c), (qs_after, eI G 6 qs_after_c)] (fun (u9 : va_W) => ∃ (x0_qf_bestSize : Int32) (x1_qf_bestPassed : Int32) (x2_qf_bestPath_c : Nat → Int32) (x3_qf_path_c : Nat → Int32), u9 = [(qf, .inr (5, [.ref qf_bestPath, .int x0_qf_bestSize, .int x1_qf_bestPassed, .ref qf_path, .int qf_passing, .int qf_picture, .int qf_behind])), (qf_bestPath, eI G 6 x2_qf_bestPath_c), (qf_path, eI G 6 x3_qf_path_c), (qs, .inr (4, [.int qs_slides, .int qs_hearers, .int qs_nears, .int qs_lines, .int qs_pass, .int qs_spread, .int qs_lamp, .int qs_behind, .int qs_settingsTold, .ref qs_slideNames, .ref qs_pictures, .ref qs_heats, .ref qs_after, .ref qs_hearerNames, .ref qs_needs, .ref qs_likes, .ref qs_hates, .ref qs_near])), (qs_heats, eI G 6 qs_heats_c), (qs_after, eI G 6 qs_after_c)] ∧ (0 ≤ x0_qf_bestSize.toInt ∧ x0_qf_bestSize.toInt ≤ 6)) := s_X6_goOn_n 7 qf qs a1 a2 a3 a4 a5 qf_bestPath qf_bestSize qf_bestPassed qf_path qf_passing qf_picture qf_behind qf_bestPath_c qf_path_c qs_slides qs_hearers qs_nears qs_lines qs_pass qs_spread qs_lamp qs_behind qs_settingsTold qs_slideNames qs_pictures qs_heats qs_after qs_hearerNames qs_needs qs_likes qs_hates qs_near qs_heats_c qs_after_c hi_a1 hi_qf_bestSize hi_qs_slides hi_qs_hearers hf_qs_after_c (by omega)
theorem dX6_findOrder_0 : decode cX6_findOrder 0 = .ok (.aload_n 0, 1) := by decide +kernel
theorem dX6_findOrder_1 : decode cX6_findOrder 1 = .ok (.iconst 0, 1) := by decide +kernel
theorem dX6_findOrder_2 : decode cX6_findOrder 2 = .ok (.putfield 18, 3) := by decide +kernel
theorem dX6_findOrder_5 : decode cX6_findOrder 5 = .ok (.iconst 0, 1) := by decide +kernel
theorem dX6_findOrder_6 : decode cX6_findOrder 6 = .ok (.istore_n 3, 1) := by decide +kernel
theorem dX6_findOrder_7 : decode cX6_findOrder 7 = .ok (.iconst 0, 1) := by decide +kernel
theorem dX6_findOrder_8 : decode cX6_findOrder 8 = .ok (.istore 4, 2) := by decide +kernel
theorem dX6_findOrder_10 : decode cX6_findOrder 10 = .ok (.iload 4, 2) := by decide +kernel
theorem dX6_findOrder_12 : decode cX6_findOrder 12 = .ok (.aload_n 1, 1) := by decide +kernel
theorem dX6_findOrder_13 : decode cX6_findOrder 13 = .ok (.getfield 22, 3) := by decide +kernel
theorem dX6_findOrder_16 : decode cX6_findOrder 16 = .ok (.if_icmp .ge 68, 3) := by decide +kernel
theorem dX6_findOrder_19 : decode cX6_findOrder 19 = .ok (.aload_n 2, 1) := by decide +kernel
theorem dX6_findOrder_20 : decode cX6_findOrder 20 = .ok (.getfield 27, 3) := by decide +kernel
theorem dX6_findOrder_23 : decode cX6_findOrder 23 = .ok (.aload_n 2, 1) := by decide +kernel
theorem dX6_findOrder_24 : decode cX6_findOrder 24 = .ok (.getfield 32, 3) := by decide +kernel
theorem dX6_findOrder_27 : decode cX6_findOrder 27 = .ok (.ior, 1) := by decide +kernel
theorem dX6_findOrder_28 : decode cX6_findOrder 28 = .ok (.iload 4, 2) := by decide +kernel
theorem dX6_findOrder_30 : decode cX6_findOrder 30 = .ok (.ishr, 1) := by decide +kernel
theorem dX6_findOrder_31 : decode cX6_findOrder 31 = .ok (.iconst 1, 1) := by decide +kernel
theorem dX6_findOrder_32 : decode cX6_findOrder 32 = .ok (.iand, 1) := by decide +kernel
theorem dX6_findOrder_33 : decode cX6_findOrder 33 = .ok (.ifCond .ne 10, 3) := by decide +kernel
theorem dX6_findOrder_36 : decode cX6_findOrder 36 = .ok (.iload_n 3, 1) := by decide +kernel
theorem dX6_findOrder_37 : decode cX6_findOrder 37 = .ok (.iconst 1, 1) := by decide +kernel
theorem dX6_findOrder_38 : decode cX6_findOrder 38 = .ok (.iload 4, 2) := by decide +kernel
theorem dX6_findOrder_40 : decode cX6_findOrder 40 = .ok (.ishl, 1) := by decide +kernel
theorem dX6_findOrder_41 : decode cX6_findOrder 41 = .ok (.ior, 1) := by decide +kernel
theorem dX6_findOrder_42 : decode cX6_findOrder 42 = .ok (.istore_n 3, 1) := by decide +kernel
theorem dX6_findOrder_43 : decode cX6_findOrder 43 = .ok (.aload_n 1, 1) := by decide +kernel
theorem dX6_findOrder_44 : decode cX6_findOrder 44 = .ok (.aload_n 1, 1) := by decide +kernel
theorem dX6_findOrder_45 : decode cX6_findOrder 45 = .ok (.aload_n 2, 1) := by decide +kernel
theorem dX6_findOrder_46 : decode cX6_findOrder 46 = .ok (.getfield 35, 3) := by decide +kernel
theorem dX6_findOrder_49 : decode cX6_findOrder 49 = .ok (.iload 4, 2) := by decide +kernel
theorem dX6_findOrder_51 : decode cX6_findOrder 51 = .ok (.iaload, 1) := by decide +kernel
theorem dX6_findOrder_52 : decode cX6_findOrder 52 = .ok (.aload_n 2, 1) := by decide +kernel
theorem dX6_findOrder_53 : decode cX6_findOrder 53 = .ok (.getfield 38, 3) := by decide +kernel
theorem dX6_findOrder_56 : decode cX6_findOrder 56 = .ok (.invokevirtual 41, 3) := by decide +kernel
theorem dX6_findOrder_59 : decode cX6_findOrder 59 = .ok (.invokevirtual 45, 3) := by decide +kernel
theorem dX6_findOrder_62 : decode cX6_findOrder 62 = .ok (.ifCond .eq 16, 3) := by decide +kernel
theorem dX6_findOrder_65 : decode cX6_findOrder 65 = .ok (.aload_n 0, 1) := by decide +kernel
theorem dX6_findOrder_66 : decode cX6_findOrder 66 = .ok (.dup, 1) := by decide +kernel
theorem dX6_findOrder_67 : decode cX6_findOrder 67 = .ok (.getfield 18, 3) := by decide +kernel
theorem dX6_findOrder_70 : decode cX6_findOrder 70 = .ok (.iconst 1, 1) := by decide +kernel
theorem dX6_findOrder_71 : decode cX6_findOrder 71 = .ok (.iload 4, 2) := by decide +kernel
theorem dX6_findOrder_73 : decode cX6_findOrder 73 = .ok (.ishl, 1) := by decide +kernel
theorem dX6_findOrder_74 : decode cX6_findOrder 74 = .ok (.ior, 1) := by decide +kernel
theorem dX6_findOrder_75 : decode cX6_findOrder 75 = .ok (.putfield 18, 3) := by decide +kernel
theorem dX6_findOrder_78 : decode cX6_findOrder 78 = .ok (.iinc 4 1, 3) := by decide +kernel
theorem dX6_findOrder_81 : decode cX6_findOrder 81 = .ok (.goto (-71), 3) := by decide +kernel
theorem dX6_findOrder_84 : decode cX6_findOrder 84 = .ok (.aload_n 0, 1) := by decide +kernel
theorem dX6_findOrder_85 : decode cX6_findOrder 85 = .ok (.iconst (-1), 1) := by decide +kernel
theorem dX6_findOrder_86 : decode cX6_findOrder 86 = .ok (.putfield 49, 3) := by decide +kernel
theorem dX6_findOrder_89 : decode cX6_findOrder 89 = .ok (.aload_n 2, 1) := by decide +kernel
theorem dX6_findOrder_90 : decode cX6_findOrder 90 = .ok (.getfield 52, 3) := by decide +kernel
theorem dX6_findOrder_93 : decode cX6_findOrder 93 = .ok (.ifCond .eq 12, 3) := by decide +kernel
theorem dX6_findOrder_105 : decode cX6_findOrder 105 = .ok (.aload_n 0, 1) := by decide +kernel
theorem dX6_findOrder_106 : decode cX6_findOrder 106 = .ok (.aload_n 1, 1) := by decide +kernel
theorem dX6_findOrder_107 : decode cX6_findOrder 107 = .ok (.iconst 0, 1) := by decide +kernel
theorem dX6_findOrder_108 : decode cX6_findOrder 108 = .ok (.iload_n 3, 1) := by decide +kernel
theorem dX6_findOrder_109 : decode cX6_findOrder 109 = .ok (.aload_n 2, 1) := by decide +kernel
theorem dX6_findOrder_110 : decode cX6_findOrder 110 = .ok (.getfield 27, 3) := by decide +kernel
theorem dX6_findOrder_113 : decode cX6_findOrder 113 = .ok (.aload_n 2, 1) := by decide +kernel
theorem dX6_findOrder_114 : decode cX6_findOrder 114 = .ok (.getfield 60, 3) := by decide +kernel
theorem dX6_findOrder_117 : decode cX6_findOrder 117 = .ok (.iconst 0, 1) := by decide +kernel
theorem dX6_findOrder_118 : decode cX6_findOrder 118 = .ok (.invokevirtual 63, 3) := by decide +kernel
theorem dX6_findOrder_121 : decode cX6_findOrder 121 = .ok (.aload_n 0, 1) := by decide +kernel
theorem dX6_findOrder_122 : decode cX6_findOrder 122 = .ok (.getfield 49, 3) := by decide +kernel
theorem dX6_findOrder_125 : decode cX6_findOrder 125 = .ok (.ireturn, 1) := by decide +kernel
theorem dX6_findOrder_96 : decode cX6_findOrder 96 = .ok (.aload_n 0, 1) := by decide +kernel
theorem dX6_findOrder_97 : decode cX6_findOrder 97 = .ok (.iconst 0, 1) := by decide +kernel
theorem dX6_findOrder_98 : decode cX6_findOrder 98 = .ok (.iconst 0, 1) := by decide +kernel
theorem dX6_findOrder_99 : decode cX6_findOrder 99 = .ok (.invokevirtual 56, 3) := by decide +kernel
theorem dX6_findOrder_102 : decode cX6_findOrder 102 = .ok (.goto 19, 3) := by decide +kernel
set_option maxHeartbeats 4000000 in
set_option maxRecDepth 100000 in
theorem s_X6_findOrder {l : Launch} {G : Gc} (qf : Nat) (qs : Nat) (qa : Nat) (qf_bestPath : Nat) (qf_bestSize : Int32) (qf_bestPassed : Int32) (qf_path : Nat) (qf_passing : Int32) (qf_picture : Int32) (qf_behind : Int32) (qf_bestPath_c : Nat → Int32) (qf_path_c : Nat → Int32) (qs_slides : Int32) (qs_hearers : Int32) (qs_nears : Int32) (qs_lines : Int32) (qs_pass : Int32) (qs_spread : Int32) (qs_lamp : Int32) (qs_behind : Int32) (qs_settingsTold : Int32) (qs_slideNames : Nat) (qs_pictures : Nat) (qs_heats : Nat) (qs_after : Nat) (qs_hearerNames : Nat) (qs_needs : Nat) (qs_likes : Nat) (qs_hates : Nat) (qs_near : Nat) (qs_heats_c : Nat → Int32) (qs_after_c : Nat → Int32) (qs_needs_c : Nat → Int32) (qs_likes_c : Nat → Int32) (qs_hates_c : Nat → Int32) (qs_near_c : Nat → Int32) (qa_hour : Int32) (qa_heat : Int32) (qa_black : Int32) (qa_so : Int32) (qa_cracked : Int32) (qa_behind : Int32) (qa_allSighs : Int32) (qa_seed : Int32) (qa_pictures : Nat) (qa_shown : Nat) (qa_sighed : Nat) (qa_pictures_c : Nat → Int32) (hi_qf_bestSize : 0 ≤ qf_bestSize.toInt ∧ qf_bestSize.toInt ≤ 6) (hi_qs_slides : 0 ≤ qs_slides.toInt ∧ qs_slides.toInt ≤ 6) (hi_qs_hearers : 0 ≤ qs_hearers.toInt ∧ qs_hearers.toInt ≤ 8) (hf_qs_after_c : inA 6 (-1) 5 qs_after_c) (hi_qa_black : 0 ≤ qa_black.toInt ∧ qa_black.toInt ≤ 1) : Ci l yX6_findOrder cX6_findOrder 5 (some .int) 11 0 0 G [.ref qf, .ref qs, .ref qa] [(qf, .inr (5, [.ref qf_bestPath, .int qf_bestSize, .int qf_bestPassed, .ref qf_path, .int qf_passing, .int qf_picture, .int qf_behind])), (qf_bestPath, eI G 6 qf_bestPath_c), (qf_path, eI G 6 qf_path_c), (qs, .inr (4, [.int qs_slides, .int qs_hearers, .int qs_nears, .int qs_lines, .int qs_pass, .int qs_spread, .int qs_lamp, .int qs_behind, .int qs_settingsTold, .ref qs_slideNames, .ref qs_pictures, .ref qs_heats, .ref qs_after, .ref qs_hearerNames, .ref qs_needs, .ref qs_likes, .ref qs_hates, .ref qs_near])), (qs_heats, eI G 6 qs_heats_c), (qs_after, eI G 6 qs_after_c), (qs_needs, eI G 8 qs_needs_c), (qs_likes, eI G 8 qs_likes_c), (qs_hates, eI G 8 qs_hates_c), (qs_near, eI G 8 qs_near_c), (qa, .inr (7, [.int qa_hour, .int qa_heat, .int qa_black, .int qa_so, .int qa_cracked, .int qa_behind, .int qa_allSighs, .int qa_seed, .ref qa_pictures, .ref qa_shown, .ref qa_sighed])), (qa_pictures, eI G 6 qa_pictures_c)] (fun (r9 : Int32) (u9 : va_W) => ∃ (x0_qf_bestSize : Int32) (x1_qf_bestPassed : Int32) (x2_qf_passing : Int32) (x3_qf_bestPath_c : Nat → Int32) (x4_qf_path_c : Nat → Int32) (r_x : Int32), r9 = r_x ∧ u9 = [(qf, .inr (5, [.ref qf_bestPath, .int x0_qf_bestSize, .int x1_qf_bestPassed, .ref qf_path, .int x2_qf_passing, .int qf_picture, .int qf_behind])), (qf_bestPath, eI G 6 x3_qf_bestPath_c), (qf_path, eI G 6 x4_qf_path_c), (qs, .inr (4, [.int qs_slides, .int qs_hearers, .int qs_nears, .int qs_lines, .int qs_pass, .int qs_spread, .int qs_lamp, .int qs_behind, .int qs_settingsTold, .ref qs_slideNames, .ref qs_pictures, .ref qs_heats, .ref qs_after, .ref qs_hearerNames, .ref qs_needs, .ref qs_likes, .ref qs_hates, .ref qs_near])), (qs_heats, eI G 6 qs_heats_c), (qs_after, eI G 6 qs_after_c), (qs_needs, eI G 8 qs_needs_c), (qs_likes, eI G 8 qs_likes_c), (qs_hates, eI G 8 qs_hates_c), (qs_near, eI G 8 qs_near_c), (qa, .inr (7, [.int qa_hour, .int qa_heat, .int qa_black, .int qa_so, .int qa_cracked, .int qa_behind, .int qa_allSighs, .int qa_seed, .ref qa_pictures, .ref qa_shown, .ref qa_sighed])), (qa_pictures, eI G 6 qa_pictures_c)] ∧ (0 ≤ x0_qf_bestSize.toInt ∧ x0_qf_bestSize.toInt ≤ 6)) := by
  refine Ci.ofQ (by decide) (Nat.le_of_ble_eq_true rfl) ?_
  intro p e s m below meth c ls A args Q hQ B hw hl
  have C : CallFix p m c cX6_findOrder 5 s args gw "LanternState$Search" := B.1
  have hl : lv_has ls 5 [(0, .ref qf), (1, .ref qs), (2, .ref qa)] := hl
  refine lv_aload_n C.1 C.2.1 dX6_findOrder_0 rfl (lv_at hl 0 rfl) ?_
  refine lv_iconst (v := 0) C.1 C.2.1 dX6_findOrder_1 (by decide) ?_
  refine x_put (w' := [(qf, .inr (5, [.ref qf_bestPath, .int qf_bestSize, .int qf_bestPassed, .ref qf_path, .int 0, .int qf_picture, .int qf_behind])), (qf_bestPath, eI G 6 qf_bestPath_c), (qf_path, eI G 6 qf_path_c), (qs, .inr (4, [.int qs_slides, .int qs_hearers, .int qs_nears, .int qs_lines, .int qs_pass, .int qs_spread, .int qs_lamp, .int qs_behind, .int qs_settingsTold, .ref qs_slideNames, .ref qs_pictures, .ref qs_heats, .ref qs_after, .ref qs_hearerNames, .ref qs_needs, .ref qs_likes, .ref qs_hates, .ref qs_near])), (qs_heats, eI G 6 qs_heats_c), (qs_after, eI G 6 qs_after_c), (qs_needs, eI G 8 qs_needs_c), (qs_likes, eI G 8 qs_likes_c), (qs_hates, eI G 8 qs_hates_c), (qs_near, eI G 8 qs_near_c), (qa, .inr (7, [.int qa_hour, .int qa_heat, .int qa_black, .int qa_so, .int qa_cracked, .int qa_behind, .int qa_allSighs, .int qa_seed, .ref qa_pictures, .ref qa_shown, .ref qa_sighed])), (qa_pictures, eI G 6 qa_pictures_c)]) C hw iwX6 tyX6_ok nmX6 5 rfl 0 rfl 4 (by decide) kw383 rfl rfl rfl (Nat.le_of_ble_eq_true rfl) rfl dX6_findOrder_2 (fun H locs hw => ?_)
  refine lv_iconst (v := 0) C.1 C.2.1 dX6_findOrder_5 (by decide) ?_
  refine lv_istore_n (lv' := [(3, .int 0), (0, .ref qf), (1, .ref qs), (2, .ref qa)]) C.1 C.2.1 dX6_findOrder_6 rfl hl (by decide) rfl (fun ls hl => ?_)
  refine lv_iconst (v := 0) C.1 C.2.1 dX6_findOrder_7 (by decide) ?_
  refine lv_istore (lv' := [(4, .int 0), (3, .int 0), (0, .ref qf), (1, .ref qs), (2, .ref qa)]) C.1 C.2.1 dX6_findOrder_8 hl (by decide) rfl (fun ls hl => ?_)
  have loopJ128 : ∀ (n9 : Nat) (j125 : Int32) (j126 : Int32) (j127 : Int32), (2147483647 - j125.toInt).toNat < n9 → (0 ≤ j125.toInt ∧ j125.toInt ≤ 6) → ∀ (H : Heap) (locs : List Loc) (ls : Array Slot), Wd G s A [(qf, .inr (5, [.ref qf_bestPath, .int qf_bestSize, .int qf_bestPassed, .ref qf_path, .int j127, .int qf_picture, .int qf_behind])), (qf_bestPath, eI G 6 qf_bestPath_c), (qf_path, eI G 6 qf_path_c), (qs, .inr (4, [.int qs_slides, .int qs_hearers, .int qs_nears, .int qs_lines, .int qs_pass, .int qs_spread, .int qs_lamp, .int qs_behind, .int qs_settingsTold, .ref qs_slideNames, .ref qs_pictures, .ref qs_heats, .ref qs_after, .ref qs_hearerNames, .ref qs_needs, .ref qs_likes, .ref qs_hates, .ref qs_near])), (qs_heats, eI G 6 qs_heats_c), (qs_after, eI G 6 qs_after_c), (qs_needs, eI G 8 qs_needs_c), (qs_likes, eI G 8 qs_likes_c), (qs_hates, eI G 8 qs_hates_c), (qs_near, eI G 8 qs_near_c), (qa, .inr (7, [.int qa_hour, .int qa_heat, .int qa_black, .int qa_so, .int qa_cracked, .int qa_behind, .int qa_allSighs, .int qa_seed, .ref qa_pictures, .ref qa_shown, .ref qa_sighed])), (qa_pictures, eI G 6 qa_pictures_c)] H locs → lv_has ls 5 [(4, .int j125), (3, .int j126), (0, .ref qf), (1, .ref qs), (2, .ref qa)] → W p l e (rmD 11 0 0) s m args below meth c H locs 0 0 Q (F0 m 10 ls []) := by
    intro n9
    induction n9 with
    | zero => intro j125 j126 j127 h9; exact absurd h9 (Nat.not_lt_zero _)
    | succ n9 ihJ128 =>
      intro j125 j126 j127 h9J128 hJ128_0 H locs ls hw hl
      have hbj125 := i_bd j125
      refine lv_iload C.1 C.2.1 dX6_findOrder_10 (lv_at hl 0 rfl) ?_
      refine lv_aload_n C.1 C.2.1 dX6_findOrder_12 rfl (lv_at hl 3 rfl) ?_
      refine x_get C hw iwX5 4 rfl 3 rfl 0 (by decide) kw148 rfl dX6_findOrder_13 ?_
      refine lv_icmp_ge (tgt := 84) C.1 C.2.1 dX6_findOrder_16 (by decide) (fun c151 => ?_) (fun c151 => ?_)
      · skip
        have c151 : qs_slides.toInt ≤ j125.toInt := i_leT (X := qs_slides.toInt) (Y := j125.toInt) rfl rfl c151
        refine lv_aload_n C.1 C.2.1 dX6_findOrder_84 rfl (lv_at hl 2 rfl) ?_
        refine lv_iconst (v := (-1)) C.1 C.2.1 dX6_findOrder_85 (by decide) ?_
        refine x_put (w' := [(qf, .inr (5, [.ref qf_bestPath, .int qf_bestSize, .int (-1), .ref qf_path, .int j127, .int qf_picture, .int qf_behind])), (qf_bestPath, eI G 6 qf_bestPath_c), (qf_path, eI G 6 qf_path_c), (qs, .inr (4, [.int qs_slides, .int qs_hearers, .int qs_nears, .int qs_lines, .int qs_pass, .int qs_spread, .int qs_lamp, .int qs_behind, .int qs_settingsTold, .ref qs_slideNames, .ref qs_pictures, .ref qs_heats, .ref qs_after, .ref qs_hearerNames, .ref qs_needs, .ref qs_likes, .ref qs_hates, .ref qs_near])), (qs_heats, eI G 6 qs_heats_c), (qs_after, eI G 6 qs_after_c), (qs_needs, eI G 8 qs_needs_c), (qs_likes, eI G 8 qs_likes_c), (qs_hates, eI G 8 qs_hates_c), (qs_near, eI G 8 qs_near_c), (qa, .inr (7, [.int qa_hour, .int qa_heat, .int qa_black, .int qa_so, .int qa_cracked, .int qa_behind, .int qa_allSighs, .int qa_seed, .ref qa_pictures, .ref qa_shown, .ref qa_sighed])), (qa_pictures, eI G 6 qa_pictures_c)]) C hw iwX6 tyX6_ok nmX6 5 rfl 0 rfl 2 (by decide) kw381 rfl rfl rfl (Nat.le_of_ble_eq_true rfl) rfl dX6_findOrder_86 (fun H locs hw => ?_)
        refine lv_aload_n C.1 C.2.1 dX6_findOrder_89 rfl (lv_at hl 4 rfl) ?_
        refine x_get C hw iwX8 7 rfl 10 rfl 2 (by decide) kw244 rfl dX6_findOrder_90 ?_
        refine lv_if_eq (tgt := 105) C.1 C.2.1 dX6_findOrder_93 (by decide) (fun c152 => ?_) (fun c152 => ?_)
        · skip
          have c152 : qa_black.toInt = 0 := i_eqT (X := qa_black.toInt) (Y := 0) rfl rfl c152
          refine lv_aload_n C.1 C.2.1 dX6_findOrder_105 rfl (lv_at hl 2 rfl) ?_
          refine lv_aload_n C.1 C.2.1 dX6_findOrder_106 rfl (lv_at hl 3 rfl) ?_
          refine lv_iconst (v := 0) C.1 C.2.1 dX6_findOrder_107 (by decide) ?_
          refine lv_iload_n C.1 C.2.1 dX6_findOrder_108 rfl (lv_at hl 1 rfl) ?_
          refine lv_aload_n C.1 C.2.1 dX6_findOrder_109 rfl (lv_at hl 4 rfl) ?_
          refine x_get C hw iwX8 7 rfl 10 rfl 3 (by decide) kw248 rfl dX6_findOrder_110 ?_
          refine lv_aload_n C.1 C.2.1 dX6_findOrder_113 rfl (lv_at hl 4 rfl) ?_
          refine x_get C hw iwX8 7 rfl 10 rfl 1 (by decide) kw241 rfl dX6_findOrder_114 ?_
          refine lv_iconst (v := 0) C.1 C.2.1 dX6_findOrder_117 (by decide) ?_
          refine x_callvV (As := [.ref qs, .int 0, .int j126, .int qa_so, .int qa_heat, .int 0]) (rest := []) (wr := [(qs_needs, eI G 8 qs_needs_c), (qs_likes, eI G 8 qs_likes_c), (qs_hates, eI G 8 qs_hates_c), (qs_near, eI G 8 qs_near_c), (qa, .inr (7, [.int qa_hour, .int qa_heat, .int qa_black, .int qa_so, .int qa_cracked, .int qa_behind, .int qa_allSighs, .int qa_seed, .ref qa_pictures, .ref qa_shown, .ref qa_sighed])), (qa_pictures, eI G 6 qa_pictures_c)]) C hw (s_X6_goOn qf qs 0 j126 qa_so qa_heat 0 qf_bestPath qf_bestSize (-1) qf_path j127 qf_picture qf_behind qf_bestPath_c qf_path_c qs_slides qs_hearers qs_nears qs_lines qs_pass qs_spread qs_lamp qs_behind qs_settingsTold qs_slideNames qs_pictures qs_heats qs_after qs_hearerNames qs_needs qs_likes qs_hates qs_near qs_heats_c qs_after_c (by decide) (by omega) (by omega) (by omega) hf_qs_after_c) mwX6_goOn kw829 [0, 1, 2, 3, 4, 5] [6, 7, 8, 9, 10, 11] rfl rfl rfl rfl (by decide) 0 rfl rfl rfl rfl hl.1 rfl (Nat.le_of_ble_eq_true rfl) ⟨(Nat.le_of_ble_eq_true rfl), (Nat.le_of_ble_eq_true rfl)⟩ ⟨(Nat.le_of_ble_eq_true rfl), (Nat.le_of_ble_eq_true rfl)⟩ dX6_findOrder_118 (fun  u9 H locs hp9 hw => ?_)
          obtain ⟨x153, x154, x155, x156, rfl, hf157⟩ := hp9
          have hw : Wd G s A [(qs_needs, eI G 8 qs_needs_c), (qs_likes, eI G 8 qs_likes_c), (qs_hates, eI G 8 qs_hates_c), (qs_near, eI G 8 qs_near_c), (qa, .inr (7, [.int qa_hour, .int qa_heat, .int qa_black, .int qa_so, .int qa_cracked, .int qa_behind, .int qa_allSighs, .int qa_seed, .ref qa_pictures, .ref qa_shown, .ref qa_sighed])), (qa_pictures, eI G 6 qa_pictures_c), (qf, .inr (5, [.ref qf_bestPath, .int x153, .int x154, .ref qf_path, .int j127, .int qf_picture, .int qf_behind])), (qf_bestPath, eI G 6 x155), (qf_path, eI G 6 x156), (qs, .inr (4, [.int qs_slides, .int qs_hearers, .int qs_nears, .int qs_lines, .int qs_pass, .int qs_spread, .int qs_lamp, .int qs_behind, .int qs_settingsTold, .ref qs_slideNames, .ref qs_pictures, .ref qs_heats, .ref qs_after, .ref qs_hearerNames, .ref qs_needs, .ref qs_likes, .ref qs_hates, .ref qs_near])), (qs_heats, eI G 6 qs_heats_c), (qs_after, eI G 6 qs_after_c)] H _ := hw
          refine lv_aload_n C.1 C.2.1 dX6_findOrder_121 rfl (lv_at hl 2 rfl) ?_
          refine x_get C hw iwX6 5 rfl 6 rfl 2 (by decide) kw381 rfl dX6_findOrder_122 ?_
          have hw := hw.sub (w' := [(qf, .inr (5, [.ref qf_bestPath, .int x153, .int x154, .ref qf_path, .int j127, .int qf_picture, .int qf_behind])), (qf_bestPath, eI G 6 x155), (qf_path, eI G 6 x156), (qs, .inr (4, [.int qs_slides, .int qs_hearers, .int qs_nears, .int qs_lines, .int qs_pass, .int qs_spread, .int qs_lamp, .int qs_behind, .int qs_settingsTold, .ref qs_slideNames, .ref qs_pictures, .ref qs_heats, .ref qs_after, .ref qs_hearerNames, .ref qs_needs, .ref qs_likes, .ref qs_hates, .ref qs_near])), (qs_heats, eI G 6 qs_heats_c), (qs_after, eI G 6 qs_after_c), (qs_needs, eI G 8 qs_needs_c), (qs_likes, eI G 8 qs_likes_c), (qs_hates, eI G 8 qs_hates_c), (qs_near, eI G 8 qs_near_c), (qa, .inr (7, [.int qa_hour, .int qa_heat, .int qa_black, .int qa_so, .int qa_cracked, .int qa_behind, .int qa_allSighs, .int qa_seed, .ref qa_pictures, .ref qa_shown, .ref qa_sighed])), (qa_pictures, eI G 6 qa_pictures_c)]) [6, 7, 8, 9, 10, 11, 0, 1, 2, 3, 4, 5] rfl rfl
          exact x_retiQ hQ B hw ⟨x153, x154, j127, x155, x156, x154, rfl, rfl, (by omega)⟩ (Nat.le_of_ble_eq_true rfl) (Nat.le_of_ble_eq_true rfl) dX6_findOrder_125
        · skip
          have c152 : qa_black.toInt ≠ 0 := i_eqF (X := qa_black.toInt) (Y := 0) rfl rfl c152
          refine lv_aload_n C.1 C.2.1 dX6_findOrder_96 rfl (lv_at hl 2 rfl) ?_
          refine lv_iconst (v := 0) C.1 C.2.1 dX6_findOrder_97 (by decide) ?_
          refine lv_iconst (v := 0) C.1 C.2.1 dX6_findOrder_98 (by decide) ?_
          refine x_callvV (As := [.int 0, .int 0]) (rest := []) (wr := [(qs, .inr (4, [.int qs_slides, .int qs_hearers, .int qs_nears, .int qs_lines, .int qs_pass, .int qs_spread, .int qs_lamp, .int qs_behind, .int qs_settingsTold, .ref qs_slideNames, .ref qs_pictures, .ref qs_heats, .ref qs_after, .ref qs_hearerNames, .ref qs_needs, .ref qs_likes, .ref qs_hates, .ref qs_near])), (qs_heats, eI G 6 qs_heats_c), (qs_after, eI G 6 qs_after_c), (qs_needs, eI G 8 qs_needs_c), (qs_likes, eI G 8 qs_likes_c), (qs_hates, eI G 8 qs_hates_c), (qs_near, eI G 8 qs_near_c), (qa, .inr (7, [.int qa_hour, .int qa_heat, .int qa_black, .int qa_so, .int qa_cracked, .int qa_behind, .int qa_allSighs, .int qa_seed, .ref qa_pictures, .ref qa_shown, .ref qa_sighed])), (qa_pictures, eI G 6 qa_pictures_c)]) C hw (s_X6_keepIfBetter qf 0 0 qf_bestPath qf_bestSize (-1) qf_path j127 qf_picture qf_behind qf_bestPath_c qf_path_c (by decide) (by omega)) mwX6_keepIfBetter kw824 [0, 1, 2] [3, 4, 5, 6, 7, 8, 9, 10, 11] rfl rfl rfl rfl (by decide) 0 rfl rfl rfl rfl hl.1 rfl (Nat.le_of_ble_eq_true rfl) ⟨(Nat.le_of_ble_eq_true rfl), (Nat.le_of_ble_eq_true rfl)⟩ ⟨(Nat.le_of_ble_eq_true rfl), (Nat.le_of_ble_eq_true rfl)⟩ dX6_findOrder_99 (fun  u9 H locs hp9 hw => ?_)
          obtain ⟨x158, x159, x160, rfl, hf161⟩ := hp9
          have hw : Wd G s A [(qs, .inr (4, [.int qs_slides, .int qs_hearers, .int qs_nears, .int qs_lines, .int qs_pass, .int qs_spread, .int qs_lamp, .int qs_behind, .int qs_settingsTold, .ref qs_slideNames, .ref qs_pictures, .ref qs_heats, .ref qs_after, .ref qs_hearerNames, .ref qs_needs, .ref qs_likes, .ref qs_hates, .ref qs_near])), (qs_heats, eI G 6 qs_heats_c), (qs_after, eI G 6 qs_after_c), (qs_needs, eI G 8 qs_needs_c), (qs_likes, eI G 8 qs_likes_c), (qs_hates, eI G 8 qs_hates_c), (qs_near, eI G 8 qs_near_c), (qa, .inr (7, [.int qa_hour, .int qa_heat, .int qa_black, .int qa_so, .int qa_cracked, .int qa_behind, .int qa_allSighs, .int qa_seed, .ref qa_pictures, .ref qa_shown, .ref qa_sighed])), (qa_pictures, eI G 6 qa_pictures_c), (qf, .inr (5, [.ref qf_bestPath, .int x158, .int x159, .ref qf_path, .int j127, .int qf_picture, .int qf_behind])), (qf_bestPath, eI G 6 x160), (qf_path, eI G 6 qf_path_c)] H _ := hw
          refine lv_goto (tgt := 121) C.1 C.2.1 dX6_findOrder_102 (by decide) ?_
          refine lv_aload_n C.1 C.2.1 dX6_findOrder_121 rfl (lv_at hl 2 rfl) ?_
          refine x_get C hw iwX6 5 rfl 9 rfl 2 (by decide) kw381 rfl dX6_findOrder_122 ?_
          have hw := hw.sub (w' := [(qf, .inr (5, [.ref qf_bestPath, .int x158, .int x159, .ref qf_path, .int j127, .int qf_picture, .int qf_behind])), (qf_bestPath, eI G 6 x160), (qf_path, eI G 6 qf_path_c), (qs, .inr (4, [.int qs_slides, .int qs_hearers, .int qs_nears, .int qs_lines, .int qs_pass, .int qs_spread, .int qs_lamp, .int qs_behind, .int qs_settingsTold, .ref qs_slideNames, .ref qs_pictures, .ref qs_heats, .ref qs_after, .ref qs_hearerNames, .ref qs_needs, .ref qs_likes, .ref qs_hates, .ref qs_near])), (qs_heats, eI G 6 qs_heats_c), (qs_after, eI G 6 qs_after_c), (qs_needs, eI G 8 qs_needs_c), (qs_likes, eI G 8 qs_likes_c), (qs_hates, eI G 8 qs_hates_c), (qs_near, eI G 8 qs_near_c), (qa, .inr (7, [.int qa_hour, .int qa_heat, .int qa_black, .int qa_so, .int qa_cracked, .int qa_behind, .int qa_allSighs, .int qa_seed, .ref qa_pictures, .ref qa_shown, .ref qa_sighed])), (qa_pictures, eI G 6 qa_pictures_c)]) [9, 10, 11, 0, 1, 2, 3, 4, 5, 6, 7, 8] rfl rfl
          exact x_retiQ hQ B hw ⟨x158, x159, j127, x160, qf_path_c, x159, rfl, rfl, (by omega)⟩ (Nat.le_of_ble_eq_true rfl) (Nat.le_of_ble_eq_true rfl) dX6_findOrder_125
      · skip
        have c151 : j125.toInt < qs_slides.toInt := i_leF (X := qs_slides.toInt) (Y := j125.toInt) rfl rfl c151
        refine lv_aload_n C.1 C.2.1 dX6_findOrder_19 rfl (lv_at hl 4 rfl) ?_
        refine x_get C hw iwX8 7 rfl 10 rfl 3 (by decide) kw248 rfl dX6_findOrder_20 ?_
        refine lv_aload_n C.1 C.2.1 dX6_findOrder_23 rfl (lv_at hl 4 rfl) ?_
        refine x_get C hw iwX8 7 rfl 10 rfl 4 (by decide) kw252 rfl dX6_findOrder_24 ?_
        refine lv_ior C.1 C.2.1 dX6_findOrder_27 (x_gen (fun v162 => ?_))
        refine lv_iload C.1 C.2.1 dX6_findOrder_28 (lv_at hl 0 rfl) ?_
        refine lv_ishr C.1 C.2.1 dX6_findOrder_30 (x_gen (fun v163 => ?_))
        refine lv_iconst (v := 1) C.1 C.2.1 dX6_findOrder_31 (by decide) ?_
        refine lv_iand C.1 C.2.1 dX6_findOrder_32 (x_genP (fun z : Int32 => 0 ≤ z.toInt ∧ z.toInt ≤ 1) (i_andR 1 rfl (by decide) rfl) (fun v164 hv164 => ?_))
        have J169 : ∀ (j168 : Int32), ∀ (H : Heap) (locs : List Loc) (ls : Array Slot), Wd G s A [(qf, .inr (5, [.ref qf_bestPath, .int qf_bestSize, .int qf_bestPassed, .ref qf_path, .int j127, .int qf_picture, .int qf_behind])), (qf_bestPath, eI G 6 qf_bestPath_c), (qf_path, eI G 6 qf_path_c), (qs, .inr (4, [.int qs_slides, .int qs_hearers, .int qs_nears, .int qs_lines, .int qs_pass, .int qs_spread, .int qs_lamp, .int qs_behind, .int qs_settingsTold, .ref qs_slideNames, .ref qs_pictures, .ref qs_heats, .ref qs_after, .ref qs_hearerNames, .ref qs_needs, .ref qs_likes, .ref qs_hates, .ref qs_near])), (qs_heats, eI G 6 qs_heats_c), (qs_after, eI G 6 qs_after_c), (qs_needs, eI G 8 qs_needs_c), (qs_likes, eI G 8 qs_likes_c), (qs_hates, eI G 8 qs_hates_c), (qs_near, eI G 8 qs_near_c), (qa, .inr (7, [.int qa_hour, .int qa_heat, .int qa_black, .int qa_so, .int qa_cracked, .int qa_behind, .int qa_allSighs, .int qa_seed, .ref qa_pictures, .ref qa_shown, .ref qa_sighed])), (qa_pictures, eI G 6 qa_pictures_c)] H locs → lv_has ls 5 [(4, .int j125), (3, .int j168), (0, .ref qf), (1, .ref qs), (2, .ref qa)] → W p l e (rmD 11 0 0) s m args below meth c H locs 0 0 Q (F0 m 43 ls []) := by
          intro j168  H locs ls hw hl
          refine lv_aload_n C.1 C.2.1 dX6_findOrder_43 rfl (lv_at hl 3 rfl) ?_
          refine lv_aload_n C.1 C.2.1 dX6_findOrder_44 rfl (lv_at hl 3 rfl) ?_
          refine lv_aload_n C.1 C.2.1 dX6_findOrder_45 rfl (lv_at hl 4 rfl) ?_
          refine x_get C hw iwX8 7 rfl 10 rfl 8 (by decide) kw264 rfl dX6_findOrder_46 ?_
          refine lv_iload C.1 C.2.1 dX6_findOrder_49 (lv_at hl 0 rfl) ?_
          refine x_iald (v := (qa_pictures_c j125.toNatClampNeg)) C hw 11 rfl (i_in (by omega) (by omega)) rfl dX6_findOrder_51 (x_gen (fun v179 => ?_))
          refine lv_aload_n C.1 C.2.1 dX6_findOrder_52 rfl (lv_at hl 4 rfl) ?_
          refine x_get C hw iwX8 7 rfl 10 rfl 5 (by decide) kw257 rfl dX6_findOrder_53 ?_
          refine x_calliV (As := [.int v179, .int qa_behind]) (rest := [.ref qs]) (wr := [(qf, .inr (5, [.ref qf_bestPath, .int qf_bestSize, .int qf_bestPassed, .ref qf_path, .int j127, .int qf_picture, .int qf_behind])), (qf_bestPath, eI G 6 qf_bestPath_c), (qf_path, eI G 6 qf_path_c), (qs_heats, eI G 6 qs_heats_c), (qs_after, eI G 6 qs_after_c), (qa, .inr (7, [.int qa_hour, .int qa_heat, .int qa_black, .int qa_so, .int qa_cracked, .int qa_behind, .int qa_allSighs, .int qa_seed, .ref qa_pictures, .ref qa_shown, .ref qa_sighed])), (qa_pictures, eI G 6 qa_pictures_c)]) C hw (s_X5_sighers qs v179 qa_behind qs_slides qs_hearers qs_nears qs_lines qs_pass qs_spread qs_lamp qs_behind qs_settingsTold qs_slideNames qs_pictures qs_heats qs_after qs_hearerNames qs_needs qs_likes qs_hates qs_near qs_needs_c qs_likes_c qs_hates_c qs_near_c (by omega)) mwX5_sighers kw822 [3, 6, 7, 8, 9] [0, 1, 2, 4, 5, 10, 11] rfl rfl rfl rfl (by decide) 0 rfl rfl rfl rfl hl.1 rfl (Nat.le_of_ble_eq_true rfl) ⟨(Nat.le_of_ble_eq_true rfl), (Nat.le_of_ble_eq_true rfl)⟩ ⟨(Nat.le_of_ble_eq_true rfl), (Nat.le_of_ble_eq_true rfl)⟩ dX6_findOrder_56 (fun r180 u9 H locs hp9 hw => ?_)
          obtain ⟨x181, rfl, rfl⟩ := hp9
          have hw : Wd G s A [(qf, .inr (5, [.ref qf_bestPath, .int qf_bestSize, .int qf_bestPassed, .ref qf_path, .int j127, .int qf_picture, .int qf_behind])), (qf_bestPath, eI G 6 qf_bestPath_c), (qf_path, eI G 6 qf_path_c), (qs_heats, eI G 6 qs_heats_c), (qs_after, eI G 6 qs_after_c), (qa, .inr (7, [.int qa_hour, .int qa_heat, .int qa_black, .int qa_so, .int qa_cracked, .int qa_behind, .int qa_allSighs, .int qa_seed, .ref qa_pictures, .ref qa_shown, .ref qa_sighed])), (qa_pictures, eI G 6 qa_pictures_c), (qs, .inr (4, [.int qs_slides, .int qs_hearers, .int qs_nears, .int qs_lines, .int qs_pass, .int qs_spread, .int qs_lamp, .int qs_behind, .int qs_settingsTold, .ref qs_slideNames, .ref qs_pictures, .ref qs_heats, .ref qs_after, .ref qs_hearerNames, .ref qs_needs, .ref qs_likes, .ref qs_hates, .ref qs_near])), (qs_needs, eI G 8 qs_needs_c), (qs_likes, eI G 8 qs_likes_c), (qs_hates, eI G 8 qs_hates_c), (qs_near, eI G 8 qs_near_c)] H _ := hw
          refine x_calliV (As := [.int r180]) (rest := []) (wr := [(qf, .inr (5, [.ref qf_bestPath, .int qf_bestSize, .int qf_bestPassed, .ref qf_path, .int j127, .int qf_picture, .int qf_behind])), (qf_bestPath, eI G 6 qf_bestPath_c), (qf_path, eI G 6 qf_path_c), (qs_heats, eI G 6 qs_heats_c), (qs_after, eI G 6 qs_after_c), (qa, .inr (7, [.int qa_hour, .int qa_heat, .int qa_black, .int qa_so, .int qa_cracked, .int qa_behind, .int qa_allSighs, .int qa_seed, .ref qa_pictures, .ref qa_shown, .ref qa_sighed])), (qa_pictures, eI G 6 qa_pictures_c), (qs_needs, eI G 8 qs_needs_c), (qs_likes, eI G 8 qs_likes_c), (qs_hates, eI G 8 qs_hates_c), (qs_near, eI G 8 qs_near_c)]) C hw (s_X5_isEnough qs r180 qs_slides qs_hearers qs_nears qs_lines qs_pass qs_spread qs_lamp qs_behind qs_settingsTold qs_slideNames qs_pictures qs_heats qs_after qs_hearerNames qs_needs qs_likes qs_hates qs_near) mwX5_isEnough kw823 [7] [0, 1, 2, 3, 4, 5, 6, 8, 9, 10, 11] rfl rfl rfl rfl (by decide) 0 rfl rfl rfl rfl hl.1 rfl (Nat.le_of_ble_eq_true rfl) ⟨(Nat.le_of_ble_eq_true rfl), (Nat.le_of_ble_eq_true rfl)⟩ ⟨(Nat.le_of_ble_eq_true rfl), (Nat.le_of_ble_eq_true rfl)⟩ dX6_findOrder_59 (fun r182 u9 H locs hp9 hw => ?_)
          have J186 : ∀ (j185 : Int32), ∀ (H : Heap) (locs : List Loc) (ls : Array Slot), Wd G s A [(qf, .inr (5, [.ref qf_bestPath, .int qf_bestSize, .int qf_bestPassed, .ref qf_path, .int j185, .int qf_picture, .int qf_behind])), (qf_bestPath, eI G 6 qf_bestPath_c), (qf_path, eI G 6 qf_path_c), (qs_heats, eI G 6 qs_heats_c), (qs_after, eI G 6 qs_after_c), (qa, .inr (7, [.int qa_hour, .int qa_heat, .int qa_black, .int qa_so, .int qa_cracked, .int qa_behind, .int qa_allSighs, .int qa_seed, .ref qa_pictures, .ref qa_shown, .ref qa_sighed])), (qa_pictures, eI G 6 qa_pictures_c), (qs, .inr (4, [.int qs_slides, .int qs_hearers, .int qs_nears, .int qs_lines, .int qs_pass, .int qs_spread, .int qs_lamp, .int qs_behind, .int qs_settingsTold, .ref qs_slideNames, .ref qs_pictures, .ref qs_heats, .ref qs_after, .ref qs_hearerNames, .ref qs_needs, .ref qs_likes, .ref qs_hates, .ref qs_near])), (qs_needs, eI G 8 qs_needs_c), (qs_likes, eI G 8 qs_likes_c), (qs_hates, eI G 8 qs_hates_c), (qs_near, eI G 8 qs_near_c)] H locs → lv_has ls 5 [(4, .int j125), (3, .int j168), (0, .ref qf), (1, .ref qs), (2, .ref qa)] → W p l e (rmD 11 0 0) s m args below meth c H locs 0 0 Q (F0 m 78 ls []) := by
            intro j185  H locs ls hw hl
            obtain ⟨v188, ev188⟩ : ∃ z : Int32, j125 + 1 = z := ⟨_, rfl⟩
            have hv188 : v188.toInt = j125.toInt + 1 := by rw [← ev188]; exact i_add rfl rfl (by omega) (by omega)
            refine lv_iinc (v := v188) (lv' := [(4, .int v188), (3, .int j168), (0, .ref qf), (1, .ref qs), (2, .ref qa)]) C.1 C.2.1 dX6_findOrder_78 hl (k := 0) rfl ev188 (by decide) rfl (fun ls hl => ?_)
            refine lv_goto (tgt := 10) C.1 C.2.1 dX6_findOrder_81 (by decide) ?_
            have hw := hw.sub (w' := [(qf, .inr (5, [.ref qf_bestPath, .int qf_bestSize, .int qf_bestPassed, .ref qf_path, .int j185, .int qf_picture, .int qf_behind])), (qf_bestPath, eI G 6 qf_bestPath_c), (qf_path, eI G 6 qf_path_c), (qs, .inr (4, [.int qs_slides, .int qs_hearers, .int qs_nears, .int qs_lines, .int qs_pass, .int qs_spread, .int qs_lamp, .int qs_behind, .int qs_settingsTold, .ref qs_slideNames, .ref qs_pictures, .ref qs_heats, .ref qs_after, .ref qs_hearerNames, .ref qs_needs, .ref qs_likes, .ref qs_hates, .ref qs_near])), (qs_heats, eI G 6 qs_heats_c), (qs_after, eI G 6 qs_after_c), (qs_needs, eI G 8 qs_needs_c), (qs_likes, eI G 8 qs_likes_c), (qs_hates, eI G 8 qs_hates_c), (qs_near, eI G 8 qs_near_c), (qa, .inr (7, [.int qa_hour, .int qa_heat, .int qa_black, .int qa_so, .int qa_cracked, .int qa_behind, .int qa_allSighs, .int qa_seed, .ref qa_pictures, .ref qa_shown, .ref qa_sighed])), (qa_pictures, eI G 6 qa_pictures_c)]) [0, 1, 2, 7, 3, 4, 8, 9, 10, 11, 5, 6] rfl rfl
            exact ihJ128 v188 j168 j185 (by omega) (by omega) _ _ _ hw (lv_sub hl [0, 1, 2, 3, 4] rfl)
          rcases hp9 with ⟨rfl, rfl⟩ | ⟨rfl, rfl⟩
          · skip
            have hw : Wd G s A [(qf, .inr (5, [.ref qf_bestPath, .int qf_bestSize, .int qf_bestPassed, .ref qf_path, .int j127, .int qf_picture, .int qf_behind])), (qf_bestPath, eI G 6 qf_bestPath_c), (qf_path, eI G 6 qf_path_c), (qs_heats, eI G 6 qs_heats_c), (qs_after, eI G 6 qs_after_c), (qa, .inr (7, [.int qa_hour, .int qa_heat, .int qa_black, .int qa_so, .int qa_cracked, .int qa_behind, .int qa_allSighs, .int qa_seed, .ref qa_pictures, .ref qa_shown, .ref qa_sighed])), (qa_pictures, eI G 6 qa_pictures_c), (qs_needs, eI G 8 qs_needs_c), (qs_likes, eI G 8 qs_likes_c), (qs_hates, eI G 8 qs_hates_c), (qs_near, eI G 8 qs_near_c), (qs, .inr (4, [.int qs_slides, .int qs_hearers, .int qs_nears, .int qs_lines, .int qs_pass, .int qs_spread, .int qs_lamp, .int qs_behind, .int qs_settingsTold, .ref qs_slideNames, .ref qs_pictures, .ref qs_heats, .ref qs_after, .ref qs_hearerNames, .ref qs_needs, .ref qs_likes, .ref qs_hates, .ref qs_near]))] H _ := hw
            refine lv_if_eq (tgt := 78) C.1 C.2.1 dX6_findOrder_62 (by decide) (fun _ => ?_) (fun h9 => absurd (by decide) h9)
            have hw := hw.sub (w' := [(qf, .inr (5, [.ref qf_bestPath, .int qf_bestSize, .int qf_bestPassed, .ref qf_path, .int j127, .int qf_picture, .int qf_behind])), (qf_bestPath, eI G 6 qf_bestPath_c), (qf_path, eI G 6 qf_path_c), (qs_heats, eI G 6 qs_heats_c), (qs_after, eI G 6 qs_after_c), (qa, .inr (7, [.int qa_hour, .int qa_heat, .int qa_black, .int qa_so, .int qa_cracked, .int qa_behind, .int qa_allSighs, .int qa_seed, .ref qa_pictures, .ref qa_shown, .ref qa_sighed])), (qa_pictures, eI G 6 qa_pictures_c), (qs, .inr (4, [.int qs_slides, .int qs_hearers, .int qs_nears, .int qs_lines, .int qs_pass, .int qs_spread, .int qs_lamp, .int qs_behind, .int qs_settingsTold, .ref qs_slideNames, .ref qs_pictures, .ref qs_heats, .ref qs_after, .ref qs_hearerNames, .ref qs_needs, .ref qs_likes, .ref qs_hates, .ref qs_near])), (qs_needs, eI G 8 qs_needs_c), (qs_likes, eI G 8 qs_likes_c), (qs_hates, eI G 8 qs_hates_c), (qs_near, eI G 8 qs_near_c)]) [0, 1, 2, 3, 4, 5, 6, 11, 7, 8, 9, 10] rfl rfl
            exact J186 j127   _ _ _ hw (lv_sub hl [0, 1, 2, 3, 4] rfl)
          · skip
            have hw : Wd G s A [(qf, .inr (5, [.ref qf_bestPath, .int qf_bestSize, .int qf_bestPassed, .ref qf_path, .int j127, .int qf_picture, .int qf_behind])), (qf_bestPath, eI G 6 qf_bestPath_c), (qf_path, eI G 6 qf_path_c), (qs_heats, eI G 6 qs_heats_c), (qs_after, eI G 6 qs_after_c), (qa, .inr (7, [.int qa_hour, .int qa_heat, .int qa_black, .int qa_so, .int qa_cracked, .int qa_behind, .int qa_allSighs, .int qa_seed, .ref qa_pictures, .ref qa_shown, .ref qa_sighed])), (qa_pictures, eI G 6 qa_pictures_c), (qs_needs, eI G 8 qs_needs_c), (qs_likes, eI G 8 qs_likes_c), (qs_hates, eI G 8 qs_hates_c), (qs_near, eI G 8 qs_near_c), (qs, .inr (4, [.int qs_slides, .int qs_hearers, .int qs_nears, .int qs_lines, .int qs_pass, .int qs_spread, .int qs_lamp, .int qs_behind, .int qs_settingsTold, .ref qs_slideNames, .ref qs_pictures, .ref qs_heats, .ref qs_after, .ref qs_hearerNames, .ref qs_needs, .ref qs_likes, .ref qs_hates, .ref qs_near]))] H _ := hw
            refine lv_if_eq (tgt := 78) C.1 C.2.1 dX6_findOrder_62 (by decide) (fun h9 => absurd h9 (by decide)) (fun _ => ?_)
            refine lv_aload_n C.1 C.2.1 dX6_findOrder_65 rfl (lv_at hl 2 rfl) ?_
            refine lv_dup C.1 C.2.1 dX6_findOrder_66 rfl ?_
            refine x_get C hw iwX6 5 rfl 0 rfl 4 (by decide) kw383 rfl dX6_findOrder_67 ?_
            refine lv_iconst (v := 1) C.1 C.2.1 dX6_findOrder_70 (by decide) ?_
            refine lv_iload C.1 C.2.1 dX6_findOrder_71 (lv_at hl 0 rfl) ?_
            refine lv_ishl C.1 C.2.1 dX6_findOrder_73 (x_genP (fun z : Int32 => 1 ≤ z.toInt ∧ z.toInt ≤ 256) (i_shl1 (by omega) (by omega)) (fun v189 hv189 => ?_))
            refine lv_ior C.1 C.2.1 dX6_findOrder_74 (x_gen (fun v190 => ?_))
            refine x_put (w' := [(qf, .inr (5, [.ref qf_bestPath, .int qf_bestSize, .int qf_bestPassed, .ref qf_path, .int v190, .int qf_picture, .int qf_behind])), (qf_bestPath, eI G 6 qf_bestPath_c), (qf_path, eI G 6 qf_path_c), (qs_heats, eI G 6 qs_heats_c), (qs_after, eI G 6 qs_after_c), (qa, .inr (7, [.int qa_hour, .int qa_heat, .int qa_black, .int qa_so, .int qa_cracked, .int qa_behind, .int qa_allSighs, .int qa_seed, .ref qa_pictures, .ref qa_shown, .ref qa_sighed])), (qa_pictures, eI G 6 qa_pictures_c), (qs_needs, eI G 8 qs_needs_c), (qs_likes, eI G 8 qs_likes_c), (qs_hates, eI G 8 qs_hates_c), (qs_near, eI G 8 qs_near_c), (qs, .inr (4, [.int qs_slides, .int qs_hearers, .int qs_nears, .int qs_lines, .int qs_pass, .int qs_spread, .int qs_lamp, .int qs_behind, .int qs_settingsTold, .ref qs_slideNames, .ref qs_pictures, .ref qs_heats, .ref qs_after, .ref qs_hearerNames, .ref qs_needs, .ref qs_likes, .ref qs_hates, .ref qs_near]))]) C hw iwX6 tyX6_ok nmX6 5 rfl 0 rfl 4 (by decide) kw383 rfl rfl rfl (Nat.le_of_ble_eq_true rfl) rfl dX6_findOrder_75 (fun H locs hw => ?_)
            have hw := hw.sub (w' := [(qf, .inr (5, [.ref qf_bestPath, .int qf_bestSize, .int qf_bestPassed, .ref qf_path, .int v190, .int qf_picture, .int qf_behind])), (qf_bestPath, eI G 6 qf_bestPath_c), (qf_path, eI G 6 qf_path_c), (qs_heats, eI G 6 qs_heats_c), (qs_after, eI G 6 qs_after_c), (qa, .inr (7, [.int qa_hour, .int qa_heat, .int qa_black, .int qa_so, .int qa_cracked, .int qa_behind, .int qa_allSighs, .int qa_seed, .ref qa_pictures, .ref qa_shown, .ref qa_sighed])), (qa_pictures, eI G 6 qa_pictures_c), (qs, .inr (4, [.int qs_slides, .int qs_hearers, .int qs_nears, .int qs_lines, .int qs_pass, .int qs_spread, .int qs_lamp, .int qs_behind, .int qs_settingsTold, .ref qs_slideNames, .ref qs_pictures, .ref qs_heats, .ref qs_after, .ref qs_hearerNames, .ref qs_needs, .ref qs_likes, .ref qs_hates, .ref qs_near])), (qs_needs, eI G 8 qs_needs_c), (qs_likes, eI G 8 qs_likes_c), (qs_hates, eI G 8 qs_hates_c), (qs_near, eI G 8 qs_near_c)]) [0, 1, 2, 3, 4, 5, 6, 11, 7, 8, 9, 10] rfl rfl
            exact J186 v190   _ _ _ hw (lv_sub hl [0, 1, 2, 3, 4] rfl)
        refine lv_if_ne (tgt := 43) C.1 C.2.1 dX6_findOrder_33 (by decide) (fun c165 => ?_) (fun c165 => ?_)
        · skip
          have c165 : v164.toInt ≠ 0 := i_eqF (X := v164.toInt) (Y := 0) rfl rfl c165
          exact J169 j126   _ _ _ hw (lv_sub hl [0, 1, 2, 3, 4] rfl)
        · skip
          have c165 : v164.toInt = 0 := i_eqT (X := v164.toInt) (Y := 0) rfl rfl c165
          refine lv_iload_n C.1 C.2.1 dX6_findOrder_36 rfl (lv_at hl 1 rfl) ?_
          refine lv_iconst (v := 1) C.1 C.2.1 dX6_findOrder_37 (by decide) ?_
          refine lv_iload C.1 C.2.1 dX6_findOrder_38 (lv_at hl 0 rfl) ?_
          refine lv_ishl C.1 C.2.1 dX6_findOrder_40 (x_genP (fun z : Int32 => 1 ≤ z.toInt ∧ z.toInt ≤ 256) (i_shl1 (by omega) (by omega)) (fun v191 hv191 => ?_))
          refine lv_ior C.1 C.2.1 dX6_findOrder_41 (x_gen (fun v192 => ?_))
          refine lv_istore_n (lv' := [(3, .int v192), (4, .int j125), (0, .ref qf), (1, .ref qs), (2, .ref qa)]) C.1 C.2.1 dX6_findOrder_42 rfl hl (by decide) rfl (fun ls hl => ?_)
          exact J169 v192   _ _ _ hw (lv_sub hl [1, 0, 2, 3, 4] rfl)
  exact loopJ128 _ 0 0 0 (Nat.lt_succ_self _) (by decide) _ _ _ hw (lv_sub hl [0, 1, 2, 3, 4] rfl)
theorem dX6_findMoved_0 : decode cX6_findMoved 0 = .ok (.iconst 1, 1) := by decide +kernel
theorem dX6_findMoved_1 : decode cX6_findMoved 1 = .ok (.aload_n 1, 1) := by decide +kernel
theorem dX6_findMoved_2 : decode cX6_findMoved 2 = .ok (.getfield 85, 3) := by decide +kernel
theorem dX6_findMoved_5 : decode cX6_findMoved 5 = .ok (.ishl, 1) := by decide +kernel
theorem dX6_findMoved_6 : decode cX6_findMoved 6 = .ok (.iconst 1, 1) := by decide +kernel
theorem dX6_findMoved_7 : decode cX6_findMoved 7 = .ok (.isub, 1) := by decide +kernel
theorem dX6_findMoved_8 : decode cX6_findMoved 8 = .ok (.istore 4, 2) := by decide +kernel
theorem dX6_findMoved_10 : decode cX6_findMoved 10 = .ok (.aload_n 1, 1) := by decide +kernel
theorem dX6_findMoved_11 : decode cX6_findMoved 11 = .ok (.iload_n 3, 1) := by decide +kernel
theorem dX6_findMoved_12 : decode cX6_findMoved 12 = .ok (.iconst 0, 1) := by decide +kernel
theorem dX6_findMoved_13 : decode cX6_findMoved 13 = .ok (.invokevirtual 88, 3) := by decide +kernel
theorem dX6_findMoved_16 : decode cX6_findMoved 16 = .ok (.istore 5, 2) := by decide +kernel
theorem dX6_findMoved_18 : decode cX6_findMoved 18 = .ok (.aload_n 1, 1) := by decide +kernel
theorem dX6_findMoved_19 : decode cX6_findMoved 19 = .ok (.iload_n 3, 1) := by decide +kernel
theorem dX6_findMoved_20 : decode cX6_findMoved 20 = .ok (.iload 4, 2) := by decide +kernel
theorem dX6_findMoved_22 : decode cX6_findMoved 22 = .ok (.invokevirtual 88, 3) := by decide +kernel
theorem dX6_findMoved_25 : decode cX6_findMoved 25 = .ok (.istore 6, 2) := by decide +kernel
theorem dX6_findMoved_27 : decode cX6_findMoved 27 = .ok (.iconst (-1), 1) := by decide +kernel
theorem dX6_findMoved_28 : decode cX6_findMoved 28 = .ok (.istore 7, 2) := by decide +kernel
theorem dX6_findMoved_30 : decode cX6_findMoved 30 = .ok (.iconst 0, 1) := by decide +kernel
theorem dX6_findMoved_31 : decode cX6_findMoved 31 = .ok (.istore 8, 2) := by decide +kernel
theorem dX6_findMoved_33 : decode cX6_findMoved 33 = .ok (.iload 8, 2) := by decide +kernel
theorem dX6_findMoved_35 : decode cX6_findMoved 35 = .ok (.iload 4, 2) := by decide +kernel
theorem dX6_findMoved_37 : decode cX6_findMoved 37 = .ok (.if_icmp .gt 68, 3) := by decide +kernel
theorem dX6_findMoved_40 : decode cX6_findMoved 40 = .ok (.iload 7, 2) := by decide +kernel
theorem dX6_findMoved_42 : decode cX6_findMoved 42 = .ok (.iconst (-1), 1) := by decide +kernel
theorem dX6_findMoved_43 : decode cX6_findMoved 43 = .ok (.if_icmp .eq 19, 3) := by decide +kernel
theorem dX6_findMoved_62 : decode cX6_findMoved 62 = .ok (.aload_n 2, 1) := by decide +kernel
theorem dX6_findMoved_63 : decode cX6_findMoved 63 = .ok (.getfield 38, 3) := by decide +kernel
theorem dX6_findMoved_66 : decode cX6_findMoved 66 = .ok (.iload 8, 2) := by decide +kernel
theorem dX6_findMoved_68 : decode cX6_findMoved 68 = .ok (.ixor, 1) := by decide +kernel
theorem dX6_findMoved_69 : decode cX6_findMoved 69 = .ok (.istore 9, 2) := by decide +kernel
theorem dX6_findMoved_71 : decode cX6_findMoved 71 = .ok (.aload_n 1, 1) := by decide +kernel
theorem dX6_findMoved_72 : decode cX6_findMoved 72 = .ok (.aload_n 1, 1) := by decide +kernel
theorem dX6_findMoved_73 : decode cX6_findMoved 73 = .ok (.iload 5, 2) := by decide +kernel
theorem dX6_findMoved_75 : decode cX6_findMoved 75 = .ok (.iload 9, 2) := by decide +kernel
theorem dX6_findMoved_77 : decode cX6_findMoved 77 = .ok (.iconst (-1), 1) := by decide +kernel
theorem dX6_findMoved_78 : decode cX6_findMoved 78 = .ok (.ixor, 1) := by decide +kernel
theorem dX6_findMoved_79 : decode cX6_findMoved 79 = .ok (.iand, 1) := by decide +kernel
theorem dX6_findMoved_80 : decode cX6_findMoved 80 = .ok (.iload 6, 2) := by decide +kernel
theorem dX6_findMoved_82 : decode cX6_findMoved 82 = .ok (.iload 9, 2) := by decide +kernel
theorem dX6_findMoved_84 : decode cX6_findMoved 84 = .ok (.iand, 1) := by decide +kernel
theorem dX6_findMoved_85 : decode cX6_findMoved 85 = .ok (.ior, 1) := by decide +kernel
theorem dX6_findMoved_86 : decode cX6_findMoved 86 = .ok (.invokevirtual 97, 3) := by decide +kernel
theorem dX6_findMoved_89 : decode cX6_findMoved 89 = .ok (.invokevirtual 45, 3) := by decide +kernel
theorem dX6_findMoved_92 : decode cX6_findMoved 92 = .ok (.ifCond .eq 7, 3) := by decide +kernel
theorem dX6_findMoved_99 : decode cX6_findMoved 99 = .ok (.iinc 8 1, 3) := by decide +kernel
theorem dX6_findMoved_102 : decode cX6_findMoved 102 = .ok (.goto (-69), 3) := by decide +kernel
theorem dX6_findMoved_95 : decode cX6_findMoved 95 = .ok (.iload 8, 2) := by decide +kernel
theorem dX6_findMoved_97 : decode cX6_findMoved 97 = .ok (.istore 7, 2) := by decide +kernel
theorem dX6_findMoved_46 : decode cX6_findMoved 46 = .ok (.iload 8, 2) := by decide +kernel
theorem dX6_findMoved_48 : decode cX6_findMoved 48 = .ok (.invokestatic 91, 3) := by decide +kernel
theorem dX6_findMoved_51 : decode cX6_findMoved 51 = .ok (.iload 7, 2) := by decide +kernel
theorem dX6_findMoved_53 : decode cX6_findMoved 53 = .ok (.invokestatic 91, 3) := by decide +kernel
theorem dX6_findMoved_56 : decode cX6_findMoved 56 = .ok (.if_icmp .lt 6, 3) := by decide +kernel
theorem dX6_findMoved_59 : decode cX6_findMoved 59 = .ok (.goto 40, 3) := by decide +kernel
theorem dX6_findMoved_105 : decode cX6_findMoved 105 = .ok (.iload 7, 2) := by decide +kernel
theorem dX6_findMoved_107 : decode cX6_findMoved 107 = .ok (.ireturn, 1) := by decide +kernel
set_option maxHeartbeats 4000000 in
set_option maxRecDepth 100000 in
theorem s_X6_findMoved {l : Launch} {G : Gc} (qf : Nat) (qs : Nat) (qa : Nat) (a1 : Int32) (qf_bestPath : Nat) (qf_bestSize : Int32) (qf_bestPassed : Int32) (qf_path : Nat) (qf_passing : Int32) (qf_picture : Int32) (qf_behind : Int32) (qs_slides : Int32) (qs_hearers : Int32) (qs_nears : Int32) (qs_lines : Int32) (qs_pass : Int32) (qs_spread : Int32) (qs_lamp : Int32) (qs_behind : Int32) (qs_settingsTold : Int32) (qs_slideNames : Nat) (qs_pictures : Nat) (qs_heats : Nat) (qs_after : Nat) (qs_hearerNames : Nat) (qs_needs : Nat) (qs_likes : Nat) (qs_hates : Nat) (qs_near : Nat) (qs_needs_c : Nat → Int32) (qs_likes_c : Nat → Int32) (qs_hates_c : Nat → Int32) (qs_near_c : Nat → Int32) (qa_hour : Int32) (qa_heat : Int32) (qa_black : Int32) (qa_so : Int32) (qa_cracked : Int32) (qa_behind : Int32) (qa_allSighs : Int32) (qa_seed : Int32) (qa_pictures : Nat) (qa_shown : Nat) (qa_sighed : Nat) (hi_qs_hearers : 0 ≤ qs_hearers.toInt ∧ qs_hearers.toInt ≤ 8) : Ci l yX6_findMoved cX6_findMoved 10 (some .int) 2 0 0 G [.ref qf, .ref qs, .ref qa, .int a1] [(qf, .inr (5, [.ref qf_bestPath, .int qf_bestSize, .int qf_bestPassed, .ref qf_path, .int qf_passing, .int qf_picture, .int qf_behind])), (qs, .inr (4, [.int qs_slides, .int qs_hearers, .int qs_nears, .int qs_lines, .int qs_pass, .int qs_spread, .int qs_lamp, .int qs_behind, .int qs_settingsTold, .ref qs_slideNames, .ref qs_pictures, .ref qs_heats, .ref qs_after, .ref qs_hearerNames, .ref qs_needs, .ref qs_likes, .ref qs_hates, .ref qs_near])), (qs_needs, eI G 8 qs_needs_c), (qs_likes, eI G 8 qs_likes_c), (qs_hates, eI G 8 qs_hates_c), (qs_near, eI G 8 qs_near_c), (qa, .inr (7, [.int qa_hour, .int qa_heat, .int qa_black, .int qa_so, .int qa_cracked, .int qa_behind, .int qa_allSighs, .int qa_seed, .ref qa_pictures, .ref qa_shown, .ref qa_sighed]))] (fun (r9 : Int32) (u9 : va_W) => ∃ (r_x : Int32), r9 = r_x ∧ u9 = [(qf, .inr (5, [.ref qf_bestPath, .int qf_bestSize, .int qf_bestPassed, .ref qf_path, .int qf_passing, .int qf_picture, .int qf_behind])), (qs, .inr (4, [.int qs_slides, .int qs_hearers, .int qs_nears, .int qs_lines, .int qs_pass, .int qs_spread, .int qs_lamp, .int qs_behind, .int qs_settingsTold, .ref qs_slideNames, .ref qs_pictures, .ref qs_heats, .ref qs_after, .ref qs_hearerNames, .ref qs_needs, .ref qs_likes, .ref qs_hates, .ref qs_near])), (qs_needs, eI G 8 qs_needs_c), (qs_likes, eI G 8 qs_likes_c), (qs_hates, eI G 8 qs_hates_c), (qs_near, eI G 8 qs_near_c), (qa, .inr (7, [.int qa_hour, .int qa_heat, .int qa_black, .int qa_so, .int qa_cracked, .int qa_behind, .int qa_allSighs, .int qa_seed, .ref qa_pictures, .ref qa_shown, .ref qa_sighed]))] ∧ ((-1) ≤ r_x.toInt ∧ r_x.toInt ≤ 255)) := by
  refine Ci.ofQ (by decide) (Nat.le_of_ble_eq_true rfl) ?_
  intro p e s m below meth c ls A args Q hQ B hw hl
  have C : CallFix p m c cX6_findMoved 10 s args gw "LanternState$Search" := B.1
  have hl : lv_has ls 10 [(0, .ref qf), (1, .ref qs), (2, .ref qa), (3, .int a1)] := hl
  refine lv_iconst (v := 1) C.1 C.2.1 dX6_findMoved_0 (by decide) ?_
  refine lv_aload_n C.1 C.2.1 dX6_findMoved_1 rfl (lv_at hl 1 rfl) ?_
  refine x_get C hw iwX5 4 rfl 1 rfl 1 (by decide) kw153 rfl dX6_findMoved_2 ?_
  refine lv_ishl C.1 C.2.1 dX6_findMoved_5 (x_genP (fun z : Int32 => 1 ≤ z.toInt ∧ z.toInt ≤ 256) (i_shl1 (by omega) (by omega)) (fun v1 hv1 => ?_))
  refine lv_iconst (v := 1) C.1 C.2.1 dX6_findMoved_6 (by decide) ?_
  refine lv_isub C.1 C.2.1 dX6_findMoved_7 (x_genP (fun z : Int32 => z.toInt = v1.toInt - 1) (i_sub (X := v1.toInt) (Y := 1) rfl rfl (by omega) (by omega)) (fun v2 hv2 => ?_))
  refine lv_istore (lv' := [(4, .int v2), (0, .ref qf), (1, .ref qs), (2, .ref qa), (3, .int a1)]) C.1 C.2.1 dX6_findMoved_8 hl (by decide) rfl (fun ls hl => ?_)
  refine lv_aload_n C.1 C.2.1 dX6_findMoved_10 rfl (lv_at hl 2 rfl) ?_
  refine lv_iload_n C.1 C.2.1 dX6_findMoved_11 rfl (lv_at hl 4 rfl) ?_
  refine lv_iconst (v := 0) C.1 C.2.1 dX6_findMoved_12 (by decide) ?_
  refine x_calliV (As := [.int a1, .int 0]) (rest := []) (wr := [(qf, .inr (5, [.ref qf_bestPath, .int qf_bestSize, .int qf_bestPassed, .ref qf_path, .int qf_passing, .int qf_picture, .int qf_behind])), (qs_near, eI G 8 qs_near_c), (qa, .inr (7, [.int qa_hour, .int qa_heat, .int qa_black, .int qa_so, .int qa_cracked, .int qa_behind, .int qa_allSighs, .int qa_seed, .ref qa_pictures, .ref qa_shown, .ref qa_sighed]))]) C hw (s_X5_ownSighers qs a1 0 qs_slides qs_hearers qs_nears qs_lines qs_pass qs_spread qs_lamp qs_behind qs_settingsTold qs_slideNames qs_pictures qs_heats qs_after qs_hearerNames qs_needs qs_likes qs_hates qs_near qs_needs_c qs_likes_c qs_hates_c (by omega)) mwX5_ownSighers kw845 [1, 2, 3, 4] [0, 5, 6] rfl rfl rfl rfl (by decide) 0 rfl rfl rfl rfl hl.1 rfl (Nat.le_of_ble_eq_true rfl) ⟨(Nat.le_of_ble_eq_true rfl), (Nat.le_of_ble_eq_true rfl)⟩ ⟨(Nat.le_of_ble_eq_true rfl), (Nat.le_of_ble_eq_true rfl)⟩ dX6_findMoved_13 (fun r3 u9 H locs hp9 hw => ?_)
  obtain ⟨x4, rfl, rfl⟩ := hp9
  have hw : Wd G s A [(qf, .inr (5, [.ref qf_bestPath, .int qf_bestSize, .int qf_bestPassed, .ref qf_path, .int qf_passing, .int qf_picture, .int qf_behind])), (qs_near, eI G 8 qs_near_c), (qa, .inr (7, [.int qa_hour, .int qa_heat, .int qa_black, .int qa_so, .int qa_cracked, .int qa_behind, .int qa_allSighs, .int qa_seed, .ref qa_pictures, .ref qa_shown, .ref qa_sighed])), (qs, .inr (4, [.int qs_slides, .int qs_hearers, .int qs_nears, .int qs_lines, .int qs_pass, .int qs_spread, .int qs_lamp, .int qs_behind, .int qs_settingsTold, .ref qs_slideNames, .ref qs_pictures, .ref qs_heats, .ref qs_after, .ref qs_hearerNames, .ref qs_needs, .ref qs_likes, .ref qs_hates, .ref qs_near])), (qs_needs, eI G 8 qs_needs_c), (qs_likes, eI G 8 qs_likes_c), (qs_hates, eI G 8 qs_hates_c)] H _ := hw
  refine lv_istore (lv' := [(5, .int r3), (4, .int v2), (0, .ref qf), (1, .ref qs), (2, .ref qa), (3, .int a1)]) C.1 C.2.1 dX6_findMoved_16 hl (by decide) rfl (fun ls hl => ?_)
  refine lv_aload_n C.1 C.2.1 dX6_findMoved_18 rfl (lv_at hl 3 rfl) ?_
  refine lv_iload_n C.1 C.2.1 dX6_findMoved_19 rfl (lv_at hl 5 rfl) ?_
  refine lv_iload C.1 C.2.1 dX6_findMoved_20 (lv_at hl 1 rfl) ?_
  refine x_calliV (As := [.int a1, .int v2]) (rest := []) (wr := [(qf, .inr (5, [.ref qf_bestPath, .int qf_bestSize, .int qf_bestPassed, .ref qf_path, .int qf_passing, .int qf_picture, .int qf_behind])), (qs_near, eI G 8 qs_near_c), (qa, .inr (7, [.int qa_hour, .int qa_heat, .int qa_black, .int qa_so, .int qa_cracked, .int qa_behind, .int qa_allSighs, .int qa_seed, .ref qa_pictures, .ref qa_shown, .ref qa_sighed]))]) C hw (s_X5_ownSighers qs a1 v2 qs_slides qs_hearers qs_nears qs_lines qs_pass qs_spread qs_lamp qs_behind qs_settingsTold qs_slideNames qs_pictures qs_heats qs_after qs_hearerNames qs_needs qs_likes qs_hates qs_near qs_needs_c qs_likes_c qs_hates_c (by omega)) mwX5_ownSighers kw845 [3, 4, 5, 6] [0, 1, 2] rfl rfl rfl rfl (by decide) 0 rfl rfl rfl rfl hl.1 rfl (Nat.le_of_ble_eq_true rfl) ⟨(Nat.le_of_ble_eq_true rfl), (Nat.le_of_ble_eq_true rfl)⟩ ⟨(Nat.le_of_ble_eq_true rfl), (Nat.le_of_ble_eq_true rfl)⟩ dX6_findMoved_22 (fun r5 u9 H locs hp9 hw => ?_)
  obtain ⟨x6, rfl, rfl⟩ := hp9
  have hw : Wd G s A [(qf, .inr (5, [.ref qf_bestPath, .int qf_bestSize, .int qf_bestPassed, .ref qf_path, .int qf_passing, .int qf_picture, .int qf_behind])), (qs_near, eI G 8 qs_near_c), (qa, .inr (7, [.int qa_hour, .int qa_heat, .int qa_black, .int qa_so, .int qa_cracked, .int qa_behind, .int qa_allSighs, .int qa_seed, .ref qa_pictures, .ref qa_shown, .ref qa_sighed])), (qs, .inr (4, [.int qs_slides, .int qs_hearers, .int qs_nears, .int qs_lines, .int qs_pass, .int qs_spread, .int qs_lamp, .int qs_behind, .int qs_settingsTold, .ref qs_slideNames, .ref qs_pictures, .ref qs_heats, .ref qs_after, .ref qs_hearerNames, .ref qs_needs, .ref qs_likes, .ref qs_hates, .ref qs_near])), (qs_needs, eI G 8 qs_needs_c), (qs_likes, eI G 8 qs_likes_c), (qs_hates, eI G 8 qs_hates_c)] H _ := hw
  refine lv_istore (lv' := [(6, .int r5), (5, .int r3), (4, .int v2), (0, .ref qf), (1, .ref qs), (2, .ref qa), (3, .int a1)]) C.1 C.2.1 dX6_findMoved_25 hl (by decide) rfl (fun ls hl => ?_)
  refine lv_iconst (v := (-1)) C.1 C.2.1 dX6_findMoved_27 (by decide) ?_
  refine lv_istore (lv' := [(7, .int (-1)), (6, .int r5), (5, .int r3), (4, .int v2), (0, .ref qf), (1, .ref qs), (2, .ref qa), (3, .int a1)]) C.1 C.2.1 dX6_findMoved_28 hl (by decide) rfl (fun ls hl => ?_)
  refine lv_iconst (v := 0) C.1 C.2.1 dX6_findMoved_30 (by decide) ?_
  refine lv_istore (lv' := [(8, .int 0), (7, .int (-1)), (6, .int r5), (5, .int r3), (4, .int v2), (0, .ref qf), (1, .ref qs), (2, .ref qa), (3, .int a1)]) C.1 C.2.1 dX6_findMoved_31 hl (by decide) rfl (fun ls hl => ?_)
  have loopJ550 : ∀ (n9 : Nat) (j548 : Int32) (j549 : Int32), (2147483647 - j548.toInt).toNat < n9 → (0 ≤ j548.toInt ∧ j548.toInt ≤ 256) → ((-1) ≤ j549.toInt ∧ j549.toInt ≤ 255) → ∀ (H : Heap) (locs : List Loc) (ls : Array Slot), Wd G s A [(qf, .inr (5, [.ref qf_bestPath, .int qf_bestSize, .int qf_bestPassed, .ref qf_path, .int qf_passing, .int qf_picture, .int qf_behind])), (qs_near, eI G 8 qs_near_c), (qa, .inr (7, [.int qa_hour, .int qa_heat, .int qa_black, .int qa_so, .int qa_cracked, .int qa_behind, .int qa_allSighs, .int qa_seed, .ref qa_pictures, .ref qa_shown, .ref qa_sighed])), (qs, .inr (4, [.int qs_slides, .int qs_hearers, .int qs_nears, .int qs_lines, .int qs_pass, .int qs_spread, .int qs_lamp, .int qs_behind, .int qs_settingsTold, .ref qs_slideNames, .ref qs_pictures, .ref qs_heats, .ref qs_after, .ref qs_hearerNames, .ref qs_needs, .ref qs_likes, .ref qs_hates, .ref qs_near])), (qs_needs, eI G 8 qs_needs_c), (qs_likes, eI G 8 qs_likes_c), (qs_hates, eI G 8 qs_hates_c)] H locs → lv_has ls 10 [(8, .int j548), (7, .int j549), (6, .int r5), (5, .int r3), (4, .int v2), (1, .ref qs), (2, .ref qa)] → W p l e (rmD 2 0 0) s m args below meth c H locs 0 0 Q (F0 m 33 ls []) := by
    intro n9
    induction n9 with
    | zero => intro j548 j549 h9; exact absurd h9 (Nat.not_lt_zero _)
    | succ n9 ihJ550 =>
      intro j548 j549 h9J550 hJ550_0 hJ550_1 H locs ls hw hl
      have hbj548 := i_bd j548
      refine lv_iload C.1 C.2.1 dX6_findMoved_33 (lv_at hl 0 rfl) ?_
      refine lv_iload C.1 C.2.1 dX6_findMoved_35 (lv_at hl 4 rfl) ?_
      refine lv_icmp_gt (tgt := 105) C.1 C.2.1 dX6_findMoved_37 (by decide) (fun c572 => ?_) (fun c572 => ?_)
      · skip
        have c572 : v2.toInt < j548.toInt := i_ltT (X := v2.toInt) (Y := j548.toInt) rfl rfl c572
        refine lv_iload C.1 C.2.1 dX6_findMoved_105 (lv_at hl 1 rfl) ?_
        have hw := hw.sub (w' := [(qf, .inr (5, [.ref qf_bestPath, .int qf_bestSize, .int qf_bestPassed, .ref qf_path, .int qf_passing, .int qf_picture, .int qf_behind])), (qs, .inr (4, [.int qs_slides, .int qs_hearers, .int qs_nears, .int qs_lines, .int qs_pass, .int qs_spread, .int qs_lamp, .int qs_behind, .int qs_settingsTold, .ref qs_slideNames, .ref qs_pictures, .ref qs_heats, .ref qs_after, .ref qs_hearerNames, .ref qs_needs, .ref qs_likes, .ref qs_hates, .ref qs_near])), (qs_needs, eI G 8 qs_needs_c), (qs_likes, eI G 8 qs_likes_c), (qs_hates, eI G 8 qs_hates_c), (qs_near, eI G 8 qs_near_c), (qa, .inr (7, [.int qa_hour, .int qa_heat, .int qa_black, .int qa_so, .int qa_cracked, .int qa_behind, .int qa_allSighs, .int qa_seed, .ref qa_pictures, .ref qa_shown, .ref qa_sighed]))]) [0, 3, 4, 5, 6, 1, 2] rfl rfl
        exact x_retiQ hQ B hw ⟨j549, rfl, rfl, (by omega)⟩ (Nat.le_of_ble_eq_true rfl) (Nat.le_of_ble_eq_true rfl) dX6_findMoved_107
      · skip
        have c572 : j548.toInt ≤ v2.toInt := i_ltF (X := v2.toInt) (Y := j548.toInt) rfl rfl c572
        refine lv_iload C.1 C.2.1 dX6_findMoved_40 (lv_at hl 1 rfl) ?_
        refine lv_iconst (v := (-1)) C.1 C.2.1 dX6_findMoved_42 (by decide) ?_
        have J591 : ∀ (j590 : Int32), ((-1) ≤ j590.toInt ∧ j590.toInt ≤ 255) → ∀ (H : Heap) (locs : List Loc) (ls : Array Slot), Wd G s A [(qf, .inr (5, [.ref qf_bestPath, .int qf_bestSize, .int qf_bestPassed, .ref qf_path, .int qf_passing, .int qf_picture, .int qf_behind])), (qs_near, eI G 8 qs_near_c), (qa, .inr (7, [.int qa_hour, .int qa_heat, .int qa_black, .int qa_so, .int qa_cracked, .int qa_behind, .int qa_allSighs, .int qa_seed, .ref qa_pictures, .ref qa_shown, .ref qa_sighed])), (qs, .inr (4, [.int qs_slides, .int qs_hearers, .int qs_nears, .int qs_lines, .int qs_pass, .int qs_spread, .int qs_lamp, .int qs_behind, .int qs_settingsTold, .ref qs_slideNames, .ref qs_pictures, .ref qs_heats, .ref qs_after, .ref qs_hearerNames, .ref qs_needs, .ref qs_likes, .ref qs_hates, .ref qs_near])), (qs_needs, eI G 8 qs_needs_c), (qs_likes, eI G 8 qs_likes_c), (qs_hates, eI G 8 qs_hates_c)] H locs → lv_has ls 10 [(8, .int j548), (7, .int j590), (6, .int r5), (5, .int r3), (4, .int v2), (1, .ref qs), (2, .ref qa)] → W p l e (rmD 2 0 0) s m args below meth c H locs 0 0 Q (F0 m 99 ls []) := by
          intro j590 hJ591_0 H locs ls hw hl
          obtain ⟨v593, ev593⟩ : ∃ z : Int32, j548 + 1 = z := ⟨_, rfl⟩
          have hv593 : v593.toInt = j548.toInt + 1 := by rw [← ev593]; exact i_add rfl rfl (by omega) (by omega)
          refine lv_iinc (v := v593) (lv' := [(8, .int v593), (7, .int j590), (6, .int r5), (5, .int r3), (4, .int v2), (1, .ref qs), (2, .ref qa)]) C.1 C.2.1 dX6_findMoved_99 hl (k := 0) rfl ev593 (by decide) rfl (fun ls hl => ?_)
          refine lv_goto (tgt := 33) C.1 C.2.1 dX6_findMoved_102 (by decide) ?_
          exact ihJ550 v593 j590 (by omega) (by omega) (by omega) _ _ _ hw (lv_sub hl [0, 1, 2, 3, 4, 5, 6] rfl)
        have J581 : ∀ (H : Heap) (locs : List Loc) (ls : Array Slot), Wd G s A [(qf, .inr (5, [.ref qf_bestPath, .int qf_bestSize, .int qf_bestPassed, .ref qf_path, .int qf_passing, .int qf_picture, .int qf_behind])), (qs_near, eI G 8 qs_near_c), (qa, .inr (7, [.int qa_hour, .int qa_heat, .int qa_black, .int qa_so, .int qa_cracked, .int qa_behind, .int qa_allSighs, .int qa_seed, .ref qa_pictures, .ref qa_shown, .ref qa_sighed])), (qs, .inr (4, [.int qs_slides, .int qs_hearers, .int qs_nears, .int qs_lines, .int qs_pass, .int qs_spread, .int qs_lamp, .int qs_behind, .int qs_settingsTold, .ref qs_slideNames, .ref qs_pictures, .ref qs_heats, .ref qs_after, .ref qs_hearerNames, .ref qs_needs, .ref qs_likes, .ref qs_hates, .ref qs_near])), (qs_needs, eI G 8 qs_needs_c), (qs_likes, eI G 8 qs_likes_c), (qs_hates, eI G 8 qs_hates_c)] H locs → lv_has ls 10 [(8, .int j548), (7, .int j549), (6, .int r5), (5, .int r3), (4, .int v2), (1, .ref qs), (2, .ref qa)] → W p l e (rmD 2 0 0) s m args below meth c H locs 0 0 Q (F0 m 62 ls []) := by
          intro   H locs ls hw hl
          refine lv_aload_n C.1 C.2.1 dX6_findMoved_62 rfl (lv_at hl 6 rfl) ?_
          refine x_get C hw iwX8 7 rfl 2 rfl 5 (by decide) kw257 rfl dX6_findMoved_63 ?_
          refine lv_iload C.1 C.2.1 dX6_findMoved_66 (lv_at hl 0 rfl) ?_
          refine lv_ixor C.1 C.2.1 dX6_findMoved_68 (x_gen (fun v594 => ?_))
          refine lv_istore (lv' := [(9, .int v594), (8, .int j548), (7, .int j549), (6, .int r5), (5, .int r3), (4, .int v2), (1, .ref qs), (2, .ref qa)]) C.1 C.2.1 dX6_findMoved_69 hl (by decide) rfl (fun ls hl => ?_)
          refine lv_aload_n C.1 C.2.1 dX6_findMoved_71 rfl (lv_at hl 6 rfl) ?_
          refine lv_aload_n C.1 C.2.1 dX6_findMoved_72 rfl (lv_at hl 6 rfl) ?_
          refine lv_iload C.1 C.2.1 dX6_findMoved_73 (lv_at hl 4 rfl) ?_
          refine lv_iload C.1 C.2.1 dX6_findMoved_75 (lv_at hl 0 rfl) ?_
          refine lv_iconst (v := (-1)) C.1 C.2.1 dX6_findMoved_77 (by decide) ?_
          refine lv_ixor C.1 C.2.1 dX6_findMoved_78 (x_gen (fun v595 => ?_))
          refine lv_iand C.1 C.2.1 dX6_findMoved_79 (x_gen (fun v596 => ?_))
          refine lv_iload C.1 C.2.1 dX6_findMoved_80 (lv_at hl 3 rfl) ?_
          refine lv_iload C.1 C.2.1 dX6_findMoved_82 (lv_at hl 0 rfl) ?_
          refine lv_iand C.1 C.2.1 dX6_findMoved_84 (x_gen (fun v597 => ?_))
          refine lv_ior C.1 C.2.1 dX6_findMoved_85 (x_gen (fun v598 => ?_))
          refine x_calliV (As := [.int v598]) (rest := [.ref qs]) (wr := [(qf, .inr (5, [.ref qf_bestPath, .int qf_bestSize, .int qf_bestPassed, .ref qf_path, .int qf_passing, .int qf_picture, .int qf_behind])), (qa, .inr (7, [.int qa_hour, .int qa_heat, .int qa_black, .int qa_so, .int qa_cracked, .int qa_behind, .int qa_allSighs, .int qa_seed, .ref qa_pictures, .ref qa_shown, .ref qa_sighed])), (qs_needs, eI G 8 qs_needs_c), (qs_likes, eI G 8 qs_likes_c), (qs_hates, eI G 8 qs_hates_c)]) C hw (s_X5_spreadFrom qs v598 qs_slides qs_hearers qs_nears qs_lines qs_pass qs_spread qs_lamp qs_behind qs_settingsTold qs_slideNames qs_pictures qs_heats qs_after qs_hearerNames qs_needs qs_likes qs_hates qs_near qs_near_c (by omega)) mwX5_spreadFrom kw847 [3, 1] [0, 2, 4, 5, 6] rfl rfl rfl rfl (by decide) 0 rfl rfl rfl rfl hl.1 rfl (Nat.le_of_ble_eq_true rfl) ⟨(Nat.le_of_ble_eq_true rfl), (Nat.le_of_ble_eq_true rfl)⟩ ⟨(Nat.le_of_ble_eq_true rfl), (Nat.le_of_ble_eq_true rfl)⟩ dX6_findMoved_86 (fun r599 u9 H locs hp9 hw => ?_)
          obtain ⟨x600, rfl, rfl⟩ := hp9
          have hw : Wd G s A [(qf, .inr (5, [.ref qf_bestPath, .int qf_bestSize, .int qf_bestPassed, .ref qf_path, .int qf_passing, .int qf_picture, .int qf_behind])), (qa, .inr (7, [.int qa_hour, .int qa_heat, .int qa_black, .int qa_so, .int qa_cracked, .int qa_behind, .int qa_allSighs, .int qa_seed, .ref qa_pictures, .ref qa_shown, .ref qa_sighed])), (qs_needs, eI G 8 qs_needs_c), (qs_likes, eI G 8 qs_likes_c), (qs_hates, eI G 8 qs_hates_c), (qs, .inr (4, [.int qs_slides, .int qs_hearers, .int qs_nears, .int qs_lines, .int qs_pass, .int qs_spread, .int qs_lamp, .int qs_behind, .int qs_settingsTold, .ref qs_slideNames, .ref qs_pictures, .ref qs_heats, .ref qs_after, .ref qs_hearerNames, .ref qs_needs, .ref qs_likes, .ref qs_hates, .ref qs_near])), (qs_near, eI G 8 qs_near_c)] H _ := hw
          refine x_calliV (As := [.int r599]) (rest := []) (wr := [(qf, .inr (5, [.ref qf_bestPath, .int qf_bestSize, .int qf_bestPassed, .ref qf_path, .int qf_passing, .int qf_picture, .int qf_behind])), (qa, .inr (7, [.int qa_hour, .int qa_heat, .int qa_black, .int qa_so, .int qa_cracked, .int qa_behind, .int qa_allSighs, .int qa_seed, .ref qa_pictures, .ref qa_shown, .ref qa_sighed])), (qs_needs, eI G 8 qs_needs_c), (qs_likes, eI G 8 qs_likes_c), (qs_hates, eI G 8 qs_hates_c), (qs_near, eI G 8 qs_near_c)]) C hw (s_X5_isEnough qs r599 qs_slides qs_hearers qs_nears qs_lines qs_pass qs_spread qs_lamp qs_behind qs_settingsTold qs_slideNames qs_pictures qs_heats qs_after qs_hearerNames qs_needs qs_likes qs_hates qs_near) mwX5_isEnough kw823 [5] [0, 1, 2, 3, 4, 6] rfl rfl rfl rfl (by decide) 0 rfl rfl rfl rfl hl.1 rfl (Nat.le_of_ble_eq_true rfl) ⟨(Nat.le_of_ble_eq_true rfl), (Nat.le_of_ble_eq_true rfl)⟩ ⟨(Nat.le_of_ble_eq_true rfl), (Nat.le_of_ble_eq_true rfl)⟩ dX6_findMoved_89 (fun r601 u9 H locs hp9 hw => ?_)
          rcases hp9 with ⟨rfl, rfl⟩ | ⟨rfl, rfl⟩
          · skip
            have hw : Wd G s A [(qf, .inr (5, [.ref qf_bestPath, .int qf_bestSize, .int qf_bestPassed, .ref qf_path, .int qf_passing, .int qf_picture, .int qf_behind])), (qa, .inr (7, [.int qa_hour, .int qa_heat, .int qa_black, .int qa_so, .int qa_cracked, .int qa_behind, .int qa_allSighs, .int qa_seed, .ref qa_pictures, .ref qa_shown, .ref qa_sighed])), (qs_needs, eI G 8 qs_needs_c), (qs_likes, eI G 8 qs_likes_c), (qs_hates, eI G 8 qs_hates_c), (qs_near, eI G 8 qs_near_c), (qs, .inr (4, [.int qs_slides, .int qs_hearers, .int qs_nears, .int qs_lines, .int qs_pass, .int qs_spread, .int qs_lamp, .int qs_behind, .int qs_settingsTold, .ref qs_slideNames, .ref qs_pictures, .ref qs_heats, .ref qs_after, .ref qs_hearerNames, .ref qs_needs, .ref qs_likes, .ref qs_hates, .ref qs_near]))] H _ := hw
            refine lv_if_eq (tgt := 99) C.1 C.2.1 dX6_findMoved_92 (by decide) (fun _ => ?_) (fun h9 => absurd (by decide) h9)
            have hw := hw.sub (w' := [(qf, .inr (5, [.ref qf_bestPath, .int qf_bestSize, .int qf_bestPassed, .ref qf_path, .int qf_passing, .int qf_picture, .int qf_behind])), (qs_near, eI G 8 qs_near_c), (qa, .inr (7, [.int qa_hour, .int qa_heat, .int qa_black, .int qa_so, .int qa_cracked, .int qa_behind, .int qa_allSighs, .int qa_seed, .ref qa_pictures, .ref qa_shown, .ref qa_sighed])), (qs, .inr (4, [.int qs_slides, .int qs_hearers, .int qs_nears, .int qs_lines, .int qs_pass, .int qs_spread, .int qs_lamp, .int qs_behind, .int qs_settingsTold, .ref qs_slideNames, .ref qs_pictures, .ref qs_heats, .ref qs_after, .ref qs_hearerNames, .ref qs_needs, .ref qs_likes, .ref qs_hates, .ref qs_near])), (qs_needs, eI G 8 qs_needs_c), (qs_likes, eI G 8 qs_likes_c), (qs_hates, eI G 8 qs_hates_c)]) [0, 5, 1, 6, 2, 3, 4] rfl rfl
            exact J591 j549  (by omega) _ _ _ hw (lv_sub hl [1, 2, 3, 4, 5, 6, 7] rfl)
          · skip
            have hw : Wd G s A [(qf, .inr (5, [.ref qf_bestPath, .int qf_bestSize, .int qf_bestPassed, .ref qf_path, .int qf_passing, .int qf_picture, .int qf_behind])), (qa, .inr (7, [.int qa_hour, .int qa_heat, .int qa_black, .int qa_so, .int qa_cracked, .int qa_behind, .int qa_allSighs, .int qa_seed, .ref qa_pictures, .ref qa_shown, .ref qa_sighed])), (qs_needs, eI G 8 qs_needs_c), (qs_likes, eI G 8 qs_likes_c), (qs_hates, eI G 8 qs_hates_c), (qs_near, eI G 8 qs_near_c), (qs, .inr (4, [.int qs_slides, .int qs_hearers, .int qs_nears, .int qs_lines, .int qs_pass, .int qs_spread, .int qs_lamp, .int qs_behind, .int qs_settingsTold, .ref qs_slideNames, .ref qs_pictures, .ref qs_heats, .ref qs_after, .ref qs_hearerNames, .ref qs_needs, .ref qs_likes, .ref qs_hates, .ref qs_near]))] H _ := hw
            refine lv_if_eq (tgt := 99) C.1 C.2.1 dX6_findMoved_92 (by decide) (fun h9 => absurd h9 (by decide)) (fun _ => ?_)
            refine lv_iload C.1 C.2.1 dX6_findMoved_95 (lv_at hl 1 rfl) ?_
            refine lv_istore (lv' := [(7, .int j548), (9, .int v594), (8, .int j548), (6, .int r5), (5, .int r3), (4, .int v2), (1, .ref qs), (2, .ref qa)]) C.1 C.2.1 dX6_findMoved_97 hl (by decide) rfl (fun ls hl => ?_)
            have hw := hw.sub (w' := [(qf, .inr (5, [.ref qf_bestPath, .int qf_bestSize, .int qf_bestPassed, .ref qf_path, .int qf_passing, .int qf_picture, .int qf_behind])), (qs_near, eI G 8 qs_near_c), (qa, .inr (7, [.int qa_hour, .int qa_heat, .int qa_black, .int qa_so, .int qa_cracked, .int qa_behind, .int qa_allSighs, .int qa_seed, .ref qa_pictures, .ref qa_shown, .ref qa_sighed])), (qs, .inr (4, [.int qs_slides, .int qs_hearers, .int qs_nears, .int qs_lines, .int qs_pass, .int qs_spread, .int qs_lamp, .int qs_behind, .int qs_settingsTold, .ref qs_slideNames, .ref qs_pictures, .ref qs_heats, .ref qs_after, .ref qs_hearerNames, .ref qs_needs, .ref qs_likes, .ref qs_hates, .ref qs_near])), (qs_needs, eI G 8 qs_needs_c), (qs_likes, eI G 8 qs_likes_c), (qs_hates, eI G 8 qs_hates_c)]) [0, 5, 1, 6, 2, 3, 4] rfl rfl
            exact J591 j548  (by omega) _ _ _ hw (lv_sub hl [2, 0, 3, 4, 5, 6, 7] rfl)
        refine lv_icmp_eq (tgt := 62) C.1 C.2.1 dX6_findMoved_43 (by decide) (fun c573 => ?_) (fun c573 => ?_)
        · skip
          have c573 : j549.toInt = (-1) := i_eqT (X := j549.toInt) (Y := (-1)) rfl rfl c573
          exact J581    _ _ _ hw (lv_sub hl [0, 1, 2, 3, 4, 5, 6] rfl)
        · skip
          have c573 : j549.toInt ≠ (-1) := i_eqF (X := j549.toInt) (Y := (-1)) rfl rfl c573
          refine lv_iload C.1 C.2.1 dX6_findMoved_46 (lv_at hl 0 rfl) ?_
          refine x_calliS (As := [.int j548]) (rest := []) (wr := [(qf, .inr (5, [.ref qf_bestPath, .int qf_bestSize, .int qf_bestPassed, .ref qf_path, .int qf_passing, .int qf_picture, .int qf_behind])), (qs_near, eI G 8 qs_near_c), (qa, .inr (7, [.int qa_hour, .int qa_heat, .int qa_black, .int qa_so, .int qa_cracked, .int qa_behind, .int qa_allSighs, .int qa_seed, .ref qa_pictures, .ref qa_shown, .ref qa_sighed])), (qs, .inr (4, [.int qs_slides, .int qs_hearers, .int qs_nears, .int qs_lines, .int qs_pass, .int qs_spread, .int qs_lamp, .int qs_behind, .int qs_settingsTold, .ref qs_slideNames, .ref qs_pictures, .ref qs_heats, .ref qs_after, .ref qs_hearerNames, .ref qs_needs, .ref qs_likes, .ref qs_hates, .ref qs_near])), (qs_needs, eI G 8 qs_needs_c), (qs_likes, eI G 8 qs_likes_c), (qs_hates, eI G 8 qs_hates_c)]) C hw (s_J6_bitCount_0f7a4 j548) mwJ6_bitCount_0f7a4 kw846 [] [0, 1, 2, 3, 4, 5, 6] rfl rfl rfl rfl (by decide) rfl hl.1 rfl (Nat.le_of_ble_eq_true rfl) ⟨(Nat.le_of_ble_eq_true rfl), (Nat.le_of_ble_eq_true rfl)⟩ ⟨(Nat.le_of_ble_eq_true rfl), (Nat.le_of_ble_eq_true rfl)⟩ dX6_findMoved_48 (fun r602 u9 H locs hp9 hw => ?_)
          obtain ⟨x603, rfl, rfl, hf604⟩ := hp9
          have hw : Wd G s A [(qf, .inr (5, [.ref qf_bestPath, .int qf_bestSize, .int qf_bestPassed, .ref qf_path, .int qf_passing, .int qf_picture, .int qf_behind])), (qs_near, eI G 8 qs_near_c), (qa, .inr (7, [.int qa_hour, .int qa_heat, .int qa_black, .int qa_so, .int qa_cracked, .int qa_behind, .int qa_allSighs, .int qa_seed, .ref qa_pictures, .ref qa_shown, .ref qa_sighed])), (qs, .inr (4, [.int qs_slides, .int qs_hearers, .int qs_nears, .int qs_lines, .int qs_pass, .int qs_spread, .int qs_lamp, .int qs_behind, .int qs_settingsTold, .ref qs_slideNames, .ref qs_pictures, .ref qs_heats, .ref qs_after, .ref qs_hearerNames, .ref qs_needs, .ref qs_likes, .ref qs_hates, .ref qs_near])), (qs_needs, eI G 8 qs_needs_c), (qs_likes, eI G 8 qs_likes_c), (qs_hates, eI G 8 qs_hates_c)] H _ := hw
          refine lv_iload C.1 C.2.1 dX6_findMoved_51 (lv_at hl 1 rfl) ?_
          refine x_calliS (As := [.int j549]) (rest := [.int r602]) (wr := [(qf, .inr (5, [.ref qf_bestPath, .int qf_bestSize, .int qf_bestPassed, .ref qf_path, .int qf_passing, .int qf_picture, .int qf_behind])), (qs_near, eI G 8 qs_near_c), (qa, .inr (7, [.int qa_hour, .int qa_heat, .int qa_black, .int qa_so, .int qa_cracked, .int qa_behind, .int qa_allSighs, .int qa_seed, .ref qa_pictures, .ref qa_shown, .ref qa_sighed])), (qs, .inr (4, [.int qs_slides, .int qs_hearers, .int qs_nears, .int qs_lines, .int qs_pass, .int qs_spread, .int qs_lamp, .int qs_behind, .int qs_settingsTold, .ref qs_slideNames, .ref qs_pictures, .ref qs_heats, .ref qs_after, .ref qs_hearerNames, .ref qs_needs, .ref qs_likes, .ref qs_hates, .ref qs_near])), (qs_needs, eI G 8 qs_needs_c), (qs_likes, eI G 8 qs_likes_c), (qs_hates, eI G 8 qs_hates_c)]) C hw (s_J6_bitCount_0f7a4 j549) mwJ6_bitCount_0f7a4 kw846 [] [0, 1, 2, 3, 4, 5, 6] rfl rfl rfl rfl (by decide) rfl hl.1 rfl (Nat.le_of_ble_eq_true rfl) ⟨(Nat.le_of_ble_eq_true rfl), (Nat.le_of_ble_eq_true rfl)⟩ ⟨(Nat.le_of_ble_eq_true rfl), (Nat.le_of_ble_eq_true rfl)⟩ dX6_findMoved_53 (fun r605 u9 H locs hp9 hw => ?_)
          obtain ⟨x606, rfl, rfl, hf607⟩ := hp9
          have hw : Wd G s A [(qf, .inr (5, [.ref qf_bestPath, .int qf_bestSize, .int qf_bestPassed, .ref qf_path, .int qf_passing, .int qf_picture, .int qf_behind])), (qs_near, eI G 8 qs_near_c), (qa, .inr (7, [.int qa_hour, .int qa_heat, .int qa_black, .int qa_so, .int qa_cracked, .int qa_behind, .int qa_allSighs, .int qa_seed, .ref qa_pictures, .ref qa_shown, .ref qa_sighed])), (qs, .inr (4, [.int qs_slides, .int qs_hearers, .int qs_nears, .int qs_lines, .int qs_pass, .int qs_spread, .int qs_lamp, .int qs_behind, .int qs_settingsTold, .ref qs_slideNames, .ref qs_pictures, .ref qs_heats, .ref qs_after, .ref qs_hearerNames, .ref qs_needs, .ref qs_likes, .ref qs_hates, .ref qs_near])), (qs_needs, eI G 8 qs_needs_c), (qs_likes, eI G 8 qs_likes_c), (qs_hates, eI G 8 qs_hates_c)] H _ := hw
          refine lv_icmp_lt (tgt := 62) C.1 C.2.1 dX6_findMoved_56 (by decide) (fun c608 => ?_) (fun c608 => ?_)
          · skip
            have c608 : r602.toInt < r605.toInt := i_ltT (X := r602.toInt) (Y := r605.toInt) rfl rfl c608
            exact J581    _ _ _ hw (lv_sub hl [0, 1, 2, 3, 4, 5, 6] rfl)
          · skip
            have c608 : r605.toInt ≤ r602.toInt := i_ltF (X := r602.toInt) (Y := r605.toInt) rfl rfl c608
            refine lv_goto (tgt := 99) C.1 C.2.1 dX6_findMoved_59 (by decide) ?_
            exact J591 j549  (by omega) _ _ _ hw (lv_sub hl [0, 1, 2, 3, 4, 5, 6] rfl)
  exact loopJ550 _ 0 (-1) (Nat.lt_succ_self _) (by decide) (by decide) _ _ _ hw (lv_sub hl [0, 1, 2, 3, 4, 6, 7] rfl)
theorem dX6_leastCells_0 : decode cX6_leastCells 0 = .ok (.iload_n 2, 1) := by decide +kernel
theorem dX6_leastCells_1 : decode cX6_leastCells 1 = .ok (.ifCond .gt 32, 3) := by decide +kernel
theorem dX6_leastCells_33 : decode cX6_leastCells 33 = .ok (.iload_n 2, 1) := by decide +kernel
theorem dX6_leastCells_34 : decode cX6_leastCells 34 = .ok (.iconst 1, 1) := by decide +kernel
theorem dX6_leastCells_35 : decode cX6_leastCells 35 = .ok (.isub, 1) := by decide +kernel
theorem dX6_leastCells_36 : decode cX6_leastCells 36 = .ok (.istore 5, 2) := by decide +kernel
theorem dX6_leastCells_38 : decode cX6_leastCells 38 = .ok (.iload 5, 2) := by decide +kernel
theorem dX6_leastCells_40 : decode cX6_leastCells 40 = .ok (.iload_n 3, 1) := by decide +kernel
theorem dX6_leastCells_41 : decode cX6_leastCells 41 = .ok (.if_icmp .ge 37, 3) := by decide +kernel
theorem dX6_leastCells_78 : decode cX6_leastCells 78 = .ok (.iconst (-1), 1) := by decide +kernel
theorem dX6_leastCells_79 : decode cX6_leastCells 79 = .ok (.ireturn, 1) := by decide +kernel
theorem dX6_leastCells_44 : decode cX6_leastCells 44 = .ok (.aload_n 0, 1) := by decide +kernel
theorem dX6_leastCells_45 : decode cX6_leastCells 45 = .ok (.aload_n 1, 1) := by decide +kernel
theorem dX6_leastCells_46 : decode cX6_leastCells 46 = .ok (.iload_n 2, 1) := by decide +kernel
theorem dX6_leastCells_47 : decode cX6_leastCells 47 = .ok (.iconst 1, 1) := by decide +kernel
theorem dX6_leastCells_48 : decode cX6_leastCells 48 = .ok (.isub, 1) := by decide +kernel
theorem dX6_leastCells_49 : decode cX6_leastCells 49 = .ok (.iload 5, 2) := by decide +kernel
theorem dX6_leastCells_51 : decode cX6_leastCells 51 = .ok (.iload 4, 2) := by decide +kernel
theorem dX6_leastCells_53 : decode cX6_leastCells 53 = .ok (.iconst 1, 1) := by decide +kernel
theorem dX6_leastCells_54 : decode cX6_leastCells 54 = .ok (.iload 5, 2) := by decide +kernel
theorem dX6_leastCells_56 : decode cX6_leastCells 56 = .ok (.ishl, 1) := by decide +kernel
theorem dX6_leastCells_57 : decode cX6_leastCells 57 = .ok (.ior, 1) := by decide +kernel
theorem dX6_leastCells_58 : decode cX6_leastCells 58 = .ok (.invokevirtual 104, 3) := by decide +kernel
theorem mwX6_leastCells : MwV yX6_leastCells cX6_leastCells 7 (some .int) 4 := ⟨⟨kw863, kw12, by decide +kernel⟩, kw862, kS22⟩
theorem dX6_leastCells_4 : decode cX6_leastCells 4 = .ok (.aload_n 1, 1) := by decide +kernel
theorem dX6_leastCells_5 : decode cX6_leastCells 5 = .ok (.aload_n 1, 1) := by decide +kernel
theorem dX6_leastCells_6 : decode cX6_leastCells 6 = .ok (.aload_n 0, 1) := by decide +kernel
theorem dX6_leastCells_7 : decode cX6_leastCells 7 = .ok (.getfield 100, 3) := by decide +kernel
theorem dX6_leastCells_10 : decode cX6_leastCells 10 = .ok (.iload 4, 2) := by decide +kernel
theorem dX6_leastCells_12 : decode cX6_leastCells 12 = .ok (.ixor, 1) := by decide +kernel
theorem dX6_leastCells_13 : decode cX6_leastCells 13 = .ok (.aload_n 0, 1) := by decide +kernel
theorem dX6_leastCells_14 : decode cX6_leastCells 14 = .ok (.getfield 103, 3) := by decide +kernel
theorem dX6_leastCells_17 : decode cX6_leastCells 17 = .ok (.invokevirtual 41, 3) := by decide +kernel
theorem dX6_leastCells_20 : decode cX6_leastCells 20 = .ok (.invokevirtual 45, 3) := by decide +kernel
theorem dX6_leastCells_23 : decode cX6_leastCells 23 = .ok (.ifCond .eq 8, 3) := by decide +kernel
theorem dX6_leastCells_31 : decode cX6_leastCells 31 = .ok (.iconst (-1), 1) := by decide +kernel
theorem dX6_leastCells_32 : decode cX6_leastCells 32 = .ok (.ireturn, 1) := by decide +kernel
theorem dX6_leastCells_26 : decode cX6_leastCells 26 = .ok (.iload 4, 2) := by decide +kernel
theorem dX6_leastCells_28 : decode cX6_leastCells 28 = .ok (.goto 4, 3) := by decide +kernel
theorem dX6_leastCells_61 : decode cX6_leastCells 61 = .ok (.istore 6, 2) := by decide +kernel
theorem dX6_leastCells_63 : decode cX6_leastCells 63 = .ok (.iload 6, 2) := by decide +kernel
theorem dX6_leastCells_65 : decode cX6_leastCells 65 = .ok (.iconst (-1), 1) := by decide +kernel
theorem dX6_leastCells_66 : decode cX6_leastCells 66 = .ok (.if_icmp .eq 6, 3) := by decide +kernel
theorem dX6_leastCells_72 : decode cX6_leastCells 72 = .ok (.iinc 5 1, 3) := by decide +kernel
theorem dX6_leastCells_75 : decode cX6_leastCells 75 = .ok (.goto (-37), 3) := by decide +kernel
theorem dX6_leastCells_69 : decode cX6_leastCells 69 = .ok (.iload 6, 2) := by decide +kernel
theorem dX6_leastCells_71 : decode cX6_leastCells 71 = .ok (.ireturn, 1) := by decide +kernel
set_option maxHeartbeats 4000000 in
set_option maxRecDepth 100000 in
theorem s_X6_leastCells_n {l : Launch} {G : Gc} (n : Nat) : ∀ (qf : Nat) (qs : Nat) (a1 : Int32) (a2 : Int32) (a3 : Int32) (qf_bestPath : Nat) (qf_bestSize : Int32) (qf_bestPassed : Int32) (qf_path : Nat) (qf_passing : Int32) (qf_picture : Int32) (qf_behind : Int32) (qs_slides : Int32) (qs_hearers : Int32) (qs_nears : Int32) (qs_lines : Int32) (qs_pass : Int32) (qs_spread : Int32) (qs_lamp : Int32) (qs_behind : Int32) (qs_settingsTold : Int32) (qs_slideNames : Nat) (qs_pictures : Nat) (qs_heats : Nat) (qs_after : Nat) (qs_hearerNames : Nat) (qs_needs : Nat) (qs_likes : Nat) (qs_hates : Nat) (qs_near : Nat) (qs_needs_c : Nat → Int32) (qs_likes_c : Nat → Int32) (qs_hates_c : Nat → Int32) (qs_near_c : Nat → Int32), (0 ≤ a1.toInt ∧ a1.toInt ≤ 4) → (0 ≤ qf_bestSize.toInt ∧ qf_bestSize.toInt ≤ 6) → (0 ≤ qs_slides.toInt ∧ qs_slides.toInt ≤ 6) → (0 ≤ qs_hearers.toInt ∧ qs_hearers.toInt ≤ 8) → (a1.toInt < (n : Int)) → Ci l yX6_leastCells cX6_leastCells 7 (some .int) (5 + 1 * n) 0 0 G [.ref qf, .ref qs, .int a1, .int a2, .int a3] [(qf, .inr (5, [.ref qf_bestPath, .int qf_bestSize, .int qf_bestPassed, .ref qf_path, .int qf_passing, .int qf_picture, .int qf_behind])), (qs, .inr (4, [.int qs_slides, .int qs_hearers, .int qs_nears, .int qs_lines, .int qs_pass, .int qs_spread, .int qs_lamp, .int qs_behind, .int qs_settingsTold, .ref qs_slideNames, .ref qs_pictures, .ref qs_heats, .ref qs_after, .ref qs_hearerNames, .ref qs_needs, .ref qs_likes, .ref qs_hates, .ref qs_near])), (qs_needs, eI G 8 qs_needs_c), (qs_likes, eI G 8 qs_likes_c), (qs_hates, eI G 8 qs_hates_c), (qs_near, eI G 8 qs_near_c)] (fun (r9 : Int32) (u9 : va_W) => ∃ (r_x : Int32), r9 = r_x ∧ u9 = [(qf, .inr (5, [.ref qf_bestPath, .int qf_bestSize, .int qf_bestPassed, .ref qf_path, .int qf_passing, .int qf_picture, .int qf_behind])), (qs, .inr (4, [.int qs_slides, .int qs_hearers, .int qs_nears, .int qs_lines, .int qs_pass, .int qs_spread, .int qs_lamp, .int qs_behind, .int qs_settingsTold, .ref qs_slideNames, .ref qs_pictures, .ref qs_heats, .ref qs_after, .ref qs_hearerNames, .ref qs_needs, .ref qs_likes, .ref qs_hates, .ref qs_near])), (qs_needs, eI G 8 qs_needs_c), (qs_likes, eI G 8 qs_likes_c), (qs_hates, eI G 8 qs_hates_c), (qs_near, eI G 8 qs_near_c)]) := by
  induction n with
  | zero => intro qf qs a1 a2 a3 qf_bestPath qf_bestSize qf_bestPassed qf_path qf_passing qf_picture qf_behind qs_slides qs_hearers qs_nears qs_lines qs_pass qs_spread qs_lamp qs_behind qs_settingsTold qs_slideNames qs_pictures qs_heats qs_after qs_hearerNames qs_needs qs_likes qs_hates qs_near qs_needs_c qs_likes_c qs_hates_c qs_near_c hi_a1 hi_qf_bestSize hi_qs_slides hi_qs_hearers hme; exfalso; omega
  | succ n ih =>
    intro qf qs a1 a2 a3 qf_bestPath qf_bestSize qf_bestPassed qf_path qf_passing qf_picture qf_behind qs_slides qs_hearers qs_nears qs_lines qs_pass qs_spread qs_lamp qs_behind qs_settingsTold qs_slideNames qs_pictures qs_heats qs_after qs_hearerNames qs_needs qs_likes qs_hates qs_near qs_needs_c qs_likes_c qs_hates_c qs_near_c hi_a1 hi_qf_bestSize hi_qs_slides hi_qs_hearers hme
    refine Ci.ofQ (by decide) (Nat.le_of_ble_eq_true rfl) ?_
    intro p e s m below meth c ls A args Q hQ B hw hl
    have C : CallFix p m c cX6_leastCells 7 s args gw "LanternState$Search" := B.1
    have hl : lv_has ls 7 [(0, .ref qf), (1, .ref qs), (2, .int a1), (3, .int a2), (4, .int a3)] := hl
    refine lv_iload_n C.1 C.2.1 dX6_leastCells_0 rfl (lv_at hl 2 rfl) ?_
    refine lv_if_gt (tgt := 33) C.1 C.2.1 dX6_leastCells_1 (by decide) (fun c1 => ?_) (fun c1 => ?_)
    · skip
      have c1 : 0 < a1.toInt := i_ltT (X := 0) (Y := a1.toInt) rfl rfl c1
      refine lv_iload_n C.1 C.2.1 dX6_leastCells_33 rfl (lv_at hl 2 rfl) ?_
      refine lv_iconst (v := 1) C.1 C.2.1 dX6_leastCells_34 (by decide) ?_
      refine lv_isub C.1 C.2.1 dX6_leastCells_35 (x_genP (fun z : Int32 => z.toInt = a1.toInt - 1) (i_sub (X := a1.toInt) (Y := 1) rfl rfl (by omega) (by omega)) (fun v2 hv2 => ?_))
      refine lv_istore (lv' := [(5, .int v2), (0, .ref qf), (1, .ref qs), (2, .int a1), (3, .int a2), (4, .int a3)]) C.1 C.2.1 dX6_leastCells_36 hl (by decide) rfl (fun ls hl => ?_)
      have loopJ223 : ∀ (n9 : Nat) (j222 : Int32), (2147483647 - j222.toInt).toNat < n9 → (0 ≤ j222.toInt) → ∀ (H : Heap) (locs : List Loc) (ls : Array Slot), Wd G s A [(qf, .inr (5, [.ref qf_bestPath, .int qf_bestSize, .int qf_bestPassed, .ref qf_path, .int qf_passing, .int qf_picture, .int qf_behind])), (qs, .inr (4, [.int qs_slides, .int qs_hearers, .int qs_nears, .int qs_lines, .int qs_pass, .int qs_spread, .int qs_lamp, .int qs_behind, .int qs_settingsTold, .ref qs_slideNames, .ref qs_pictures, .ref qs_heats, .ref qs_after, .ref qs_hearerNames, .ref qs_needs, .ref qs_likes, .ref qs_hates, .ref qs_near])), (qs_needs, eI G 8 qs_needs_c), (qs_likes, eI G 8 qs_likes_c), (qs_hates, eI G 8 qs_hates_c), (qs_near, eI G 8 qs_near_c)] H locs → lv_has ls 7 [(5, .int j222), (0, .ref qf), (1, .ref qs), (2, .int a1), (3, .int a2), (4, .int a3)] → W p l e (rmD (5 + 1 * (n + 1)) 0 0) s m args below meth c H locs 0 0 Q (F0 m 38 ls []) := by
        intro n9
        induction n9 with
        | zero => intro j222 h9; exact absurd h9 (Nat.not_lt_zero _)
        | succ n9 ihJ223 =>
          intro j222 h9J223 hJ223_0 H locs ls hw hl
          have hbj222 := i_bd j222
          refine lv_iload C.1 C.2.1 dX6_leastCells_38 (lv_at hl 0 rfl) ?_
          refine lv_iload_n C.1 C.2.1 dX6_leastCells_40 rfl (lv_at hl 4 rfl) ?_
          refine lv_icmp_ge (tgt := 78) C.1 C.2.1 dX6_leastCells_41 (by decide) (fun c234 => ?_) (fun c234 => ?_)
          · skip
            have c234 : a2.toInt ≤ j222.toInt := i_leT (X := a2.toInt) (Y := j222.toInt) rfl rfl c234
            have bc234_j222 := i_bd j222
            have bc234_a2 := i_bd a2
            refine lv_iconst (v := (-1)) C.1 C.2.1 dX6_leastCells_78 (by decide) ?_
            exact x_retiQ hQ B hw ⟨(-1), rfl, rfl⟩ (Nat.le_of_ble_eq_true rfl) (Nat.le_of_ble_eq_true rfl) dX6_leastCells_79
          · skip
            have c234 : j222.toInt < a2.toInt := i_leF (X := a2.toInt) (Y := j222.toInt) rfl rfl c234
            have bc234_j222 := i_bd j222
            have bc234_a2 := i_bd a2
            refine lv_aload_n C.1 C.2.1 dX6_leastCells_44 rfl (lv_at hl 1 rfl) ?_
            refine lv_aload_n C.1 C.2.1 dX6_leastCells_45 rfl (lv_at hl 2 rfl) ?_
            refine lv_iload_n C.1 C.2.1 dX6_leastCells_46 rfl (lv_at hl 3 rfl) ?_
            refine lv_iconst (v := 1) C.1 C.2.1 dX6_leastCells_47 (by decide) ?_
            refine lv_isub C.1 C.2.1 dX6_leastCells_48 (x_genP (fun z : Int32 => z.toInt = a1.toInt - 1) (i_sub (X := a1.toInt) (Y := 1) rfl rfl (by omega) (by omega)) (fun v235 hv235 => ?_))
            refine lv_iload C.1 C.2.1 dX6_leastCells_49 (lv_at hl 0 rfl) ?_
            refine lv_iload C.1 C.2.1 dX6_leastCells_51 (lv_at hl 5 rfl) ?_
            refine lv_iconst (v := 1) C.1 C.2.1 dX6_leastCells_53 (by decide) ?_
            refine lv_iload C.1 C.2.1 dX6_leastCells_54 (lv_at hl 0 rfl) ?_
            refine lv_ishl C.1 C.2.1 dX6_leastCells_56 (x_gen (fun v236 => ?_))
            refine lv_ior C.1 C.2.1 dX6_leastCells_57 (x_gen (fun v237 => ?_))
            refine x_calliV (As := [.ref qs, .int v235, .int j222, .int v237]) (rest := []) (wr := []) C hw (ih qf qs v235 j222 v237 qf_bestPath qf_bestSize qf_bestPassed qf_path qf_passing qf_picture qf_behind qs_slides qs_hearers qs_nears qs_lines qs_pass qs_spread qs_lamp qs_behind qs_settingsTold qs_slideNames qs_pictures qs_heats qs_after qs_hearerNames qs_needs qs_likes qs_hates qs_near qs_needs_c qs_likes_c qs_hates_c qs_near_c (by omega) (by omega) (by omega) (by omega) (by omega)) mwX6_leastCells kw860 [0, 1, 2, 3, 4, 5] [] rfl rfl rfl rfl (by decide) 0 rfl rfl rfl rfl hl.1 rfl (Nat.le_of_ble_eq_true rfl) ⟨(by dsimp only [rmD]; omega), (by dsimp only [rmD]; omega)⟩ ⟨(Nat.le_of_ble_eq_true rfl), (Nat.le_of_ble_eq_true rfl)⟩ dX6_leastCells_58 (fun r238 u9 H locs hp9 hw => ?_)
            obtain ⟨x239, rfl, rfl⟩ := hp9
            have hw : Wd G s A [(qf, .inr (5, [.ref qf_bestPath, .int qf_bestSize, .int qf_bestPassed, .ref qf_path, .int qf_passing, .int qf_picture, .int qf_behind])), (qs, .inr (4, [.int qs_slides, .int qs_hearers, .int qs_nears, .int qs_lines, .int qs_pass, .int qs_spread, .int qs_lamp, .int qs_behind, .int qs_settingsTold, .ref qs_slideNames, .ref qs_pictures, .ref qs_heats, .ref qs_after, .ref qs_hearerNames, .ref qs_needs, .ref qs_likes, .ref qs_hates, .ref qs_near])), (qs_needs, eI G 8 qs_needs_c), (qs_likes, eI G 8 qs_likes_c), (qs_hates, eI G 8 qs_hates_c), (qs_near, eI G 8 qs_near_c)] H _ := hw
            refine lv_istore (lv' := [(6, .int r238), (5, .int j222), (0, .ref qf), (1, .ref qs), (2, .int a1), (3, .int a2), (4, .int a3)]) C.1 C.2.1 dX6_leastCells_61 hl (by decide) rfl (fun ls hl => ?_)
            refine lv_iload C.1 C.2.1 dX6_leastCells_63 (lv_at hl 0 rfl) ?_
            refine lv_iconst (v := (-1)) C.1 C.2.1 dX6_leastCells_65 (by decide) ?_
            refine lv_icmp_eq (tgt := 72) C.1 C.2.1 dX6_leastCells_66 (by decide) (fun c240 => ?_) (fun c240 => ?_)
            · skip
              have c240 : r238.toInt = (-1) := i_eqT (X := r238.toInt) (Y := (-1)) rfl rfl c240
              have bc240_r238 := i_bd r238
              obtain ⟨v241, ev241⟩ : ∃ z : Int32, j222 + 1 = z := ⟨_, rfl⟩
              have hv241 : v241.toInt = j222.toInt + 1 := by rw [← ev241]; exact i_add rfl rfl (by omega) (by omega)
              refine lv_iinc (v := v241) (lv' := [(5, .int v241), (6, .int r238), (0, .ref qf), (1, .ref qs), (2, .int a1), (3, .int a2), (4, .int a3)]) C.1 C.2.1 dX6_leastCells_72 hl (k := 1) rfl ev241 (by decide) rfl (fun ls hl => ?_)
              refine lv_goto (tgt := 38) C.1 C.2.1 dX6_leastCells_75 (by decide) ?_
              exact ihJ223 v241 (by omega) (by omega) _ _ _ hw (lv_sub hl [0, 2, 3, 4, 5, 6] rfl)
            · skip
              have c240 : r238.toInt ≠ (-1) := i_eqF (X := r238.toInt) (Y := (-1)) rfl rfl c240
              have bc240_r238 := i_bd r238
              refine lv_iload C.1 C.2.1 dX6_leastCells_69 (lv_at hl 0 rfl) ?_
              exact x_retiQ hQ B hw ⟨r238, rfl, rfl⟩ (Nat.le_of_ble_eq_true rfl) (Nat.le_of_ble_eq_true rfl) dX6_leastCells_71
      exact loopJ223 _ v2 (Nat.lt_succ_self _) (by omega) _ _ _ hw (lv_sub hl [0, 1, 2, 3, 4, 5] rfl)
    · skip
      have c1 : a1.toInt ≤ 0 := i_ltF (X := 0) (Y := a1.toInt) rfl rfl c1
      refine lv_aload_n C.1 C.2.1 dX6_leastCells_4 rfl (lv_at hl 1 rfl) ?_
      refine lv_aload_n C.1 C.2.1 dX6_leastCells_5 rfl (lv_at hl 1 rfl) ?_
      refine lv_aload_n C.1 C.2.1 dX6_leastCells_6 rfl (lv_at hl 0 rfl) ?_
      refine x_get C hw iwX6 5 rfl 0 rfl 5 (by decide) kw384 rfl dX6_leastCells_7 ?_
      refine lv_iload C.1 C.2.1 dX6_leastCells_10 (lv_at hl 4 rfl) ?_
      refine lv_ixor C.1 C.2.1 dX6_leastCells_12 (x_gen (fun v242 => ?_))
      refine lv_aload_n C.1 C.2.1 dX6_leastCells_13 rfl (lv_at hl 0 rfl) ?_
      refine x_get C hw iwX6 5 rfl 0 rfl 6 (by decide) kw385 rfl dX6_leastCells_14 ?_
      refine x_calliV (As := [.int v242, .int qf_behind]) (rest := [.ref qs]) (wr := [(qf, .inr (5, [.ref qf_bestPath, .int qf_bestSize, .int qf_bestPassed, .ref qf_path, .int qf_passing, .int qf_picture, .int qf_behind]))]) C hw (s_X5_sighers qs v242 qf_behind qs_slides qs_hearers qs_nears qs_lines qs_pass qs_spread qs_lamp qs_behind qs_settingsTold qs_slideNames qs_pictures qs_heats qs_after qs_hearerNames qs_needs qs_likes qs_hates qs_near qs_needs_c qs_likes_c qs_hates_c qs_near_c (by omega)) mwX5_sighers kw822 [1, 2, 3, 4, 5] [0] rfl rfl rfl rfl (by decide) 0 rfl rfl rfl rfl hl.1 rfl (Nat.le_of_ble_eq_true rfl) ⟨(by dsimp only [rmD]; omega), (by dsimp only [rmD]; omega)⟩ ⟨(Nat.le_of_ble_eq_true rfl), (Nat.le_of_ble_eq_true rfl)⟩ dX6_leastCells_17 (fun r243 u9 H locs hp9 hw => ?_)
      obtain ⟨x244, rfl, rfl⟩ := hp9
      have hw : Wd G s A [(qf, .inr (5, [.ref qf_bestPath, .int qf_bestSize, .int qf_bestPassed, .ref qf_path, .int qf_passing, .int qf_picture, .int qf_behind])), (qs, .inr (4, [.int qs_slides, .int qs_hearers, .int qs_nears, .int qs_lines, .int qs_pass, .int qs_spread, .int qs_lamp, .int qs_behind, .int qs_settingsTold, .ref qs_slideNames, .ref qs_pictures, .ref qs_heats, .ref qs_after, .ref qs_hearerNames, .ref qs_needs, .ref qs_likes, .ref qs_hates, .ref qs_near])), (qs_needs, eI G 8 qs_needs_c), (qs_likes, eI G 8 qs_likes_c), (qs_hates, eI G 8 qs_hates_c), (qs_near, eI G 8 qs_near_c)] H _ := hw
      refine x_calliV (As := [.int r243]) (rest := []) (wr := [(qf, .inr (5, [.ref qf_bestPath, .int qf_bestSize, .int qf_bestPassed, .ref qf_path, .int qf_passing, .int qf_picture, .int qf_behind])), (qs_needs, eI G 8 qs_needs_c), (qs_likes, eI G 8 qs_likes_c), (qs_hates, eI G 8 qs_hates_c), (qs_near, eI G 8 qs_near_c)]) C hw (s_X5_isEnough qs r243 qs_slides qs_hearers qs_nears qs_lines qs_pass qs_spread qs_lamp qs_behind qs_settingsTold qs_slideNames qs_pictures qs_heats qs_after qs_hearerNames qs_needs qs_likes qs_hates qs_near) mwX5_isEnough kw823 [1] [0, 2, 3, 4, 5] rfl rfl rfl rfl (by decide) 0 rfl rfl rfl rfl hl.1 rfl (Nat.le_of_ble_eq_true rfl) ⟨(by dsimp only [rmD]; omega), (by dsimp only [rmD]; omega)⟩ ⟨(Nat.le_of_ble_eq_true rfl), (Nat.le_of_ble_eq_true rfl)⟩ dX6_leastCells_20 (fun r245 u9 H locs hp9 hw => ?_)
      rcases hp9 with ⟨rfl, rfl⟩ | ⟨rfl, rfl⟩
      · skip
        have hw : Wd G s A [(qf, .inr (5, [.ref qf_bestPath, .int qf_bestSize, .int qf_bestPassed, .ref qf_path, .int qf_passing, .int qf_picture, .int qf_behind])), (qs_needs, eI G 8 qs_needs_c), (qs_likes, eI G 8 qs_likes_c), (qs_hates, eI G 8 qs_hates_c), (qs_near, eI G 8 qs_near_c), (qs, .inr (4, [.int qs_slides, .int qs_hearers, .int qs_nears, .int qs_lines, .int qs_pass, .int qs_spread, .int qs_lamp, .int qs_behind, .int qs_settingsTold, .ref qs_slideNames, .ref qs_pictures, .ref qs_heats, .ref qs_after, .ref qs_hearerNames, .ref qs_needs, .ref qs_likes, .ref qs_hates, .ref qs_near]))] H _ := hw
        refine lv_if_eq (tgt := 31) C.1 C.2.1 dX6_leastCells_23 (by decide) (fun _ => ?_) (fun h9 => absurd (by decide) h9)
        refine lv_iconst (v := (-1)) C.1 C.2.1 dX6_leastCells_31 (by decide) ?_
        have hw := hw.sub (w' := [(qf, .inr (5, [.ref qf_bestPath, .int qf_bestSize, .int qf_bestPassed, .ref qf_path, .int qf_passing, .int qf_picture, .int qf_behind])), (qs, .inr (4, [.int qs_slides, .int qs_hearers, .int qs_nears, .int qs_lines, .int qs_pass, .int qs_spread, .int qs_lamp, .int qs_behind, .int qs_settingsTold, .ref qs_slideNames, .ref qs_pictures, .ref qs_heats, .ref qs_after, .ref qs_hearerNames, .ref qs_needs, .ref qs_likes, .ref qs_hates, .ref qs_near])), (qs_needs, eI G 8 qs_needs_c), (qs_likes, eI G 8 qs_likes_c), (qs_hates, eI G 8 qs_hates_c), (qs_near, eI G 8 qs_near_c)]) [0, 5, 1, 2, 3, 4] rfl rfl
        exact x_retiQ hQ B hw ⟨(-1), rfl, rfl⟩ (Nat.le_of_ble_eq_true rfl) (Nat.le_of_ble_eq_true rfl) dX6_leastCells_32
      · skip
        have hw : Wd G s A [(qf, .inr (5, [.ref qf_bestPath, .int qf_bestSize, .int qf_bestPassed, .ref qf_path, .int qf_passing, .int qf_picture, .int qf_behind])), (qs_needs, eI G 8 qs_needs_c), (qs_likes, eI G 8 qs_likes_c), (qs_hates, eI G 8 qs_hates_c), (qs_near, eI G 8 qs_near_c), (qs, .inr (4, [.int qs_slides, .int qs_hearers, .int qs_nears, .int qs_lines, .int qs_pass, .int qs_spread, .int qs_lamp, .int qs_behind, .int qs_settingsTold, .ref qs_slideNames, .ref qs_pictures, .ref qs_heats, .ref qs_after, .ref qs_hearerNames, .ref qs_needs, .ref qs_likes, .ref qs_hates, .ref qs_near]))] H _ := hw
        refine lv_if_eq (tgt := 31) C.1 C.2.1 dX6_leastCells_23 (by decide) (fun h9 => absurd h9 (by decide)) (fun _ => ?_)
        refine lv_iload C.1 C.2.1 dX6_leastCells_26 (lv_at hl 4 rfl) ?_
        refine lv_goto (tgt := 32) C.1 C.2.1 dX6_leastCells_28 (by decide) ?_
        have hw := hw.sub (w' := [(qf, .inr (5, [.ref qf_bestPath, .int qf_bestSize, .int qf_bestPassed, .ref qf_path, .int qf_passing, .int qf_picture, .int qf_behind])), (qs, .inr (4, [.int qs_slides, .int qs_hearers, .int qs_nears, .int qs_lines, .int qs_pass, .int qs_spread, .int qs_lamp, .int qs_behind, .int qs_settingsTold, .ref qs_slideNames, .ref qs_pictures, .ref qs_heats, .ref qs_after, .ref qs_hearerNames, .ref qs_needs, .ref qs_likes, .ref qs_hates, .ref qs_near])), (qs_needs, eI G 8 qs_needs_c), (qs_likes, eI G 8 qs_likes_c), (qs_hates, eI G 8 qs_hates_c), (qs_near, eI G 8 qs_near_c)]) [0, 5, 1, 2, 3, 4] rfl rfl
        exact x_retiQ hQ B hw ⟨a3, rfl, rfl⟩ (Nat.le_of_ble_eq_true rfl) (Nat.le_of_ble_eq_true rfl) dX6_leastCells_32
theorem s_X6_leastCells {l : Launch} {G : Gc} (qf : Nat) (qs : Nat) (a1 : Int32) (a2 : Int32) (a3 : Int32) (qf_bestPath : Nat) (qf_bestSize : Int32) (qf_bestPassed : Int32) (qf_path : Nat) (qf_passing : Int32) (qf_picture : Int32) (qf_behind : Int32) (qs_slides : Int32) (qs_hearers : Int32) (qs_nears : Int32) (qs_lines : Int32) (qs_pass : Int32) (qs_spread : Int32) (qs_lamp : Int32) (qs_behind : Int32) (qs_settingsTold : Int32) (qs_slideNames : Nat) (qs_pictures : Nat) (qs_heats : Nat) (qs_after : Nat) (qs_hearerNames : Nat) (qs_needs : Nat) (qs_likes : Nat) (qs_hates : Nat) (qs_near : Nat) (qs_needs_c : Nat → Int32) (qs_likes_c : Nat → Int32) (qs_hates_c : Nat → Int32) (qs_near_c : Nat → Int32) (hi_a1 : 0 ≤ a1.toInt ∧ a1.toInt ≤ 4) (hi_qf_bestSize : 0 ≤ qf_bestSize.toInt ∧ qf_bestSize.toInt ≤ 6) (hi_qs_slides : 0 ≤ qs_slides.toInt ∧ qs_slides.toInt ≤ 6) (hi_qs_hearers : 0 ≤ qs_hearers.toInt ∧ qs_hearers.toInt ≤ 8) : Ci l yX6_leastCells cX6_leastCells 7 (some .int) 10 0 0 G [.ref qf, .ref qs, .int a1, .int a2, .int a3] [(qf, .inr (5, [.ref qf_bestPath, .int qf_bestSize, .int qf_bestPassed, .ref qf_path, .int qf_passing, .int qf_picture, .int qf_behind])), (qs, .inr (4, [.int qs_slides, .int qs_hearers, .int qs_nears, .int qs_lines, .int qs_pass, .int qs_spread, .int qs_lamp, .int qs_behind, .int qs_settingsTold, .ref qs_slideNames, .ref qs_pictures, .ref qs_heats, .ref qs_after, .ref qs_hearerNames, .ref qs_needs, .ref qs_likes, .ref qs_hates, .ref qs_near])), (qs_needs, eI G 8 qs_needs_c), (qs_likes, eI G 8 qs_likes_c), (qs_hates, eI G 8 qs_hates_c), (qs_near, eI G 8 qs_near_c)] (fun (r9 : Int32) (u9 : va_W) => ∃ (r_x : Int32), r9 = r_x ∧ u9 = [(qf, .inr (5, [.ref qf_bestPath, .int qf_bestSize, .int qf_bestPassed, .ref qf_path, .int qf_passing, .int qf_picture, .int qf_behind])), (qs, .inr (4, [.int qs_slides, .int qs_hearers, .int qs_nears, .int qs_lines, .int qs_pass, .int qs_spread, .int qs_lamp, .int qs_behind, .int qs_settingsTold, .ref qs_slideNames, .ref qs_pictures, .ref qs_heats, .ref qs_after, .ref qs_hearerNames, .ref qs_needs, .ref qs_likes, .ref qs_hates, .ref qs_near])), (qs_needs, eI G 8 qs_needs_c), (qs_likes, eI G 8 qs_likes_c), (qs_hates, eI G 8 qs_hates_c), (qs_near, eI G 8 qs_near_c)]) := s_X6_leastCells_n 5 qf qs a1 a2 a3 qf_bestPath qf_bestSize qf_bestPassed qf_path qf_passing qf_picture qf_behind qs_slides qs_hearers qs_nears qs_lines qs_pass qs_spread qs_lamp qs_behind qs_settingsTold qs_slideNames qs_pictures qs_heats qs_after qs_hearerNames qs_needs qs_likes qs_hates qs_near qs_needs_c qs_likes_c qs_hates_c qs_near_c hi_a1 hi_qf_bestSize hi_qs_slides hi_qs_hearers (by omega)
theorem dX6_findScratches_0 : decode cX6_findScratches 0 = .ok (.aload_n 0, 1) := by decide +kernel
theorem dX6_findScratches_1 : decode cX6_findScratches 1 = .ok (.iload_n 3, 1) := by decide +kernel
theorem dX6_findScratches_2 : decode cX6_findScratches 2 = .ok (.putfield 100, 3) := by decide +kernel
theorem dX6_findScratches_5 : decode cX6_findScratches 5 = .ok (.aload_n 0, 1) := by decide +kernel
theorem dX6_findScratches_6 : decode cX6_findScratches 6 = .ok (.aload_n 2, 1) := by decide +kernel
theorem dX6_findScratches_7 : decode cX6_findScratches 7 = .ok (.getfield 38, 3) := by decide +kernel
theorem dX6_findScratches_10 : decode cX6_findScratches 10 = .ok (.putfield 103, 3) := by decide +kernel
theorem dX6_findScratches_13 : decode cX6_findScratches 13 = .ok (.iconst (-1), 1) := by decide +kernel
theorem dX6_findScratches_14 : decode cX6_findScratches 14 = .ok (.istore 4, 2) := by decide +kernel
theorem dX6_findScratches_16 : decode cX6_findScratches 16 = .ok (.iconst 0, 1) := by decide +kernel
theorem dX6_findScratches_17 : decode cX6_findScratches 17 = .ok (.istore 5, 2) := by decide +kernel
theorem dX6_findScratches_19 : decode cX6_findScratches 19 = .ok (.iload 4, 2) := by decide +kernel
theorem dX6_findScratches_21 : decode cX6_findScratches 21 = .ok (.iconst (-1), 1) := by decide +kernel
theorem dX6_findScratches_22 : decode cX6_findScratches 22 = .ok (.if_icmp .ne 27, 3) := by decide +kernel
theorem dX6_findScratches_25 : decode cX6_findScratches 25 = .ok (.iload 5, 2) := by decide +kernel
theorem dX6_findScratches_27 : decode cX6_findScratches 27 = .ok (.iconst 4, 1) := by decide +kernel
theorem dX6_findScratches_28 : decode cX6_findScratches 28 = .ok (.if_icmp .gt 21, 3) := by decide +kernel
theorem dX6_findScratches_31 : decode cX6_findScratches 31 = .ok (.aload_n 0, 1) := by decide +kernel
theorem dX6_findScratches_32 : decode cX6_findScratches 32 = .ok (.aload_n 1, 1) := by decide +kernel
theorem dX6_findScratches_33 : decode cX6_findScratches 33 = .ok (.iload 5, 2) := by decide +kernel
theorem dX6_findScratches_35 : decode cX6_findScratches 35 = .ok (.bipush 16, 2) := by decide +kernel
theorem dX6_findScratches_37 : decode cX6_findScratches 37 = .ok (.iconst 0, 1) := by decide +kernel
theorem dX6_findScratches_38 : decode cX6_findScratches 38 = .ok (.invokevirtual 104, 3) := by decide +kernel
theorem dX6_findScratches_41 : decode cX6_findScratches 41 = .ok (.istore 4, 2) := by decide +kernel
theorem dX6_findScratches_43 : decode cX6_findScratches 43 = .ok (.iinc 5 1, 3) := by decide +kernel
theorem dX6_findScratches_46 : decode cX6_findScratches 46 = .ok (.goto (-27), 3) := by decide +kernel
theorem dX6_findScratches_49 : decode cX6_findScratches 49 = .ok (.iload 4, 2) := by decide +kernel
theorem dX6_findScratches_51 : decode cX6_findScratches 51 = .ok (.ireturn, 1) := by decide +kernel
set_option maxHeartbeats 4000000 in
set_option maxRecDepth 100000 in
theorem s_X6_findScratches {l : Launch} {G : Gc} (qf : Nat) (qs : Nat) (qa : Nat) (a1 : Int32) (qf_bestPath : Nat) (qf_bestSize : Int32) (qf_bestPassed : Int32) (qf_path : Nat) (qf_passing : Int32) (qf_picture : Int32) (qf_behind : Int32) (qs_slides : Int32) (qs_hearers : Int32) (qs_nears : Int32) (qs_lines : Int32) (qs_pass : Int32) (qs_spread : Int32) (qs_lamp : Int32) (qs_behind : Int32) (qs_settingsTold : Int32) (qs_slideNames : Nat) (qs_pictures : Nat) (qs_heats : Nat) (qs_after : Nat) (qs_hearerNames : Nat) (qs_needs : Nat) (qs_likes : Nat) (qs_hates : Nat) (qs_near : Nat) (qs_needs_c : Nat → Int32) (qs_likes_c : Nat → Int32) (qs_hates_c : Nat → Int32) (qs_near_c : Nat → Int32) (qa_hour : Int32) (qa_heat : Int32) (qa_black : Int32) (qa_so : Int32) (qa_cracked : Int32) (qa_behind : Int32) (qa_allSighs : Int32) (qa_seed : Int32) (qa_pictures : Nat) (qa_shown : Nat) (qa_sighed : Nat) (hi_qf_bestSize : 0 ≤ qf_bestSize.toInt ∧ qf_bestSize.toInt ≤ 6) (hi_qs_slides : 0 ≤ qs_slides.toInt ∧ qs_slides.toInt ≤ 6) (hi_qs_hearers : 0 ≤ qs_hearers.toInt ∧ qs_hearers.toInt ≤ 8) : Ci l yX6_findScratches cX6_findScratches 6 (some .int) 11 0 0 G [.ref qf, .ref qs, .ref qa, .int a1] [(qf, .inr (5, [.ref qf_bestPath, .int qf_bestSize, .int qf_bestPassed, .ref qf_path, .int qf_passing, .int qf_picture, .int qf_behind])), (qs, .inr (4, [.int qs_slides, .int qs_hearers, .int qs_nears, .int qs_lines, .int qs_pass, .int qs_spread, .int qs_lamp, .int qs_behind, .int qs_settingsTold, .ref qs_slideNames, .ref qs_pictures, .ref qs_heats, .ref qs_after, .ref qs_hearerNames, .ref qs_needs, .ref qs_likes, .ref qs_hates, .ref qs_near])), (qs_needs, eI G 8 qs_needs_c), (qs_likes, eI G 8 qs_likes_c), (qs_hates, eI G 8 qs_hates_c), (qs_near, eI G 8 qs_near_c), (qa, .inr (7, [.int qa_hour, .int qa_heat, .int qa_black, .int qa_so, .int qa_cracked, .int qa_behind, .int qa_allSighs, .int qa_seed, .ref qa_pictures, .ref qa_shown, .ref qa_sighed]))] (fun (r9 : Int32) (u9 : va_W) => ∃ (r_x : Int32), r9 = r_x ∧ u9 = [(qf, .inr (5, [.ref qf_bestPath, .int qf_bestSize, .int qf_bestPassed, .ref qf_path, .int qf_passing, .int a1, .int qa_behind])), (qs, .inr (4, [.int qs_slides, .int qs_hearers, .int qs_nears, .int qs_lines, .int qs_pass, .int qs_spread, .int qs_lamp, .int qs_behind, .int qs_settingsTold, .ref qs_slideNames, .ref qs_pictures, .ref qs_heats, .ref qs_after, .ref qs_hearerNames, .ref qs_needs, .ref qs_likes, .ref qs_hates, .ref qs_near])), (qs_needs, eI G 8 qs_needs_c), (qs_likes, eI G 8 qs_likes_c), (qs_hates, eI G 8 qs_hates_c), (qs_near, eI G 8 qs_near_c), (qa, .inr (7, [.int qa_hour, .int qa_heat, .int qa_black, .int qa_so, .int qa_cracked, .int qa_behind, .int qa_allSighs, .int qa_seed, .ref qa_pictures, .ref qa_shown, .ref qa_sighed]))]) := by
  refine Ci.ofQ (by decide) (Nat.le_of_ble_eq_true rfl) ?_
  intro p e s m below meth c ls A args Q hQ B hw hl
  have C : CallFix p m c cX6_findScratches 6 s args gw "LanternState$Search" := B.1
  have hl : lv_has ls 6 [(0, .ref qf), (1, .ref qs), (2, .ref qa), (3, .int a1)] := hl
  refine lv_aload_n C.1 C.2.1 dX6_findScratches_0 rfl (lv_at hl 0 rfl) ?_
  refine lv_iload_n C.1 C.2.1 dX6_findScratches_1 rfl (lv_at hl 3 rfl) ?_
  refine x_put (w' := [(qf, .inr (5, [.ref qf_bestPath, .int qf_bestSize, .int qf_bestPassed, .ref qf_path, .int qf_passing, .int a1, .int qf_behind])), (qs, .inr (4, [.int qs_slides, .int qs_hearers, .int qs_nears, .int qs_lines, .int qs_pass, .int qs_spread, .int qs_lamp, .int qs_behind, .int qs_settingsTold, .ref qs_slideNames, .ref qs_pictures, .ref qs_heats, .ref qs_after, .ref qs_hearerNames, .ref qs_needs, .ref qs_likes, .ref qs_hates, .ref qs_near])), (qs_needs, eI G 8 qs_needs_c), (qs_likes, eI G 8 qs_likes_c), (qs_hates, eI G 8 qs_hates_c), (qs_near, eI G 8 qs_near_c), (qa, .inr (7, [.int qa_hour, .int qa_heat, .int qa_black, .int qa_so, .int qa_cracked, .int qa_behind, .int qa_allSighs, .int qa_seed, .ref qa_pictures, .ref qa_shown, .ref qa_sighed]))]) C hw iwX6 tyX6_ok nmX6 5 rfl 0 rfl 5 (by decide) kw384 rfl rfl rfl (Nat.le_of_ble_eq_true rfl) rfl dX6_findScratches_2 (fun H locs hw => ?_)
  refine lv_aload_n C.1 C.2.1 dX6_findScratches_5 rfl (lv_at hl 0 rfl) ?_
  refine lv_aload_n C.1 C.2.1 dX6_findScratches_6 rfl (lv_at hl 2 rfl) ?_
  refine x_get C hw iwX8 7 rfl 6 rfl 5 (by decide) kw257 rfl dX6_findScratches_7 ?_
  refine x_put (w' := [(qf, .inr (5, [.ref qf_bestPath, .int qf_bestSize, .int qf_bestPassed, .ref qf_path, .int qf_passing, .int a1, .int qa_behind])), (qs, .inr (4, [.int qs_slides, .int qs_hearers, .int qs_nears, .int qs_lines, .int qs_pass, .int qs_spread, .int qs_lamp, .int qs_behind, .int qs_settingsTold, .ref qs_slideNames, .ref qs_pictures, .ref qs_heats, .ref qs_after, .ref qs_hearerNames, .ref qs_needs, .ref qs_likes, .ref qs_hates, .ref qs_near])), (qs_needs, eI G 8 qs_needs_c), (qs_likes, eI G 8 qs_likes_c), (qs_hates, eI G 8 qs_hates_c), (qs_near, eI G 8 qs_near_c), (qa, .inr (7, [.int qa_hour, .int qa_heat, .int qa_black, .int qa_so, .int qa_cracked, .int qa_behind, .int qa_allSighs, .int qa_seed, .ref qa_pictures, .ref qa_shown, .ref qa_sighed]))]) C hw iwX6 tyX6_ok nmX6 5 rfl 0 rfl 6 (by decide) kw385 rfl rfl rfl (Nat.le_of_ble_eq_true rfl) rfl dX6_findScratches_10 (fun H locs hw => ?_)
  refine lv_iconst (v := (-1)) C.1 C.2.1 dX6_findScratches_13 (by decide) ?_
  refine lv_istore (lv' := [(4, .int (-1)), (0, .ref qf), (1, .ref qs), (2, .ref qa), (3, .int a1)]) C.1 C.2.1 dX6_findScratches_14 hl (by decide) rfl (fun ls hl => ?_)
  refine lv_iconst (v := 0) C.1 C.2.1 dX6_findScratches_16 (by decide) ?_
  refine lv_istore (lv' := [(5, .int 0), (4, .int (-1)), (0, .ref qf), (1, .ref qs), (2, .ref qa), (3, .int a1)]) C.1 C.2.1 dX6_findScratches_17 hl (by decide) rfl (fun ls hl => ?_)
  have loopJ38 : ∀ (n9 : Nat) (j36 : Int32) (j37 : Int32), (2147483647 - j36.toInt).toNat < n9 → (0 ≤ j36.toInt ∧ j36.toInt ≤ 5) → ∀ (H : Heap) (locs : List Loc) (ls : Array Slot), Wd G s A [(qf, .inr (5, [.ref qf_bestPath, .int qf_bestSize, .int qf_bestPassed, .ref qf_path, .int qf_passing, .int a1, .int qa_behind])), (qs, .inr (4, [.int qs_slides, .int qs_hearers, .int qs_nears, .int qs_lines, .int qs_pass, .int qs_spread, .int qs_lamp, .int qs_behind, .int qs_settingsTold, .ref qs_slideNames, .ref qs_pictures, .ref qs_heats, .ref qs_after, .ref qs_hearerNames, .ref qs_needs, .ref qs_likes, .ref qs_hates, .ref qs_near])), (qs_needs, eI G 8 qs_needs_c), (qs_likes, eI G 8 qs_likes_c), (qs_hates, eI G 8 qs_hates_c), (qs_near, eI G 8 qs_near_c), (qa, .inr (7, [.int qa_hour, .int qa_heat, .int qa_black, .int qa_so, .int qa_cracked, .int qa_behind, .int qa_allSighs, .int qa_seed, .ref qa_pictures, .ref qa_shown, .ref qa_sighed]))] H locs → lv_has ls 6 [(5, .int j36), (4, .int j37), (0, .ref qf), (1, .ref qs)] → W p l e (rmD 11 0 0) s m args below meth c H locs 0 0 Q (F0 m 19 ls []) := by
    intro n9
    induction n9 with
    | zero => intro j36 j37 h9; exact absurd h9 (Nat.not_lt_zero _)
    | succ n9 ihJ38 =>
      intro j36 j37 h9J38 hJ38_0 H locs ls hw hl
      have hbj36 := i_bd j36
      refine lv_iload C.1 C.2.1 dX6_findScratches_19 (lv_at hl 1 rfl) ?_
      refine lv_iconst (v := (-1)) C.1 C.2.1 dX6_findScratches_21 (by decide) ?_
      refine lv_icmp_ne (tgt := 49) C.1 C.2.1 dX6_findScratches_22 (by decide) (fun c47 => ?_) (fun c47 => ?_)
      · skip
        have c47 : j37.toInt ≠ (-1) := i_eqF (X := j37.toInt) (Y := (-1)) rfl rfl c47
        have bc47_j37 := i_bd j37
        refine lv_iload C.1 C.2.1 dX6_findScratches_49 (lv_at hl 1 rfl) ?_
        exact x_retiQ hQ B hw ⟨j37, rfl, rfl⟩ (Nat.le_of_ble_eq_true rfl) (Nat.le_of_ble_eq_true rfl) dX6_findScratches_51
      · skip
        have c47 : j37.toInt = (-1) := i_eqT (X := j37.toInt) (Y := (-1)) rfl rfl c47
        have bc47_j37 := i_bd j37
        refine lv_iload C.1 C.2.1 dX6_findScratches_25 (lv_at hl 0 rfl) ?_
        refine lv_iconst (v := 4) C.1 C.2.1 dX6_findScratches_27 (by decide) ?_
        refine lv_icmp_gt (tgt := 49) C.1 C.2.1 dX6_findScratches_28 (by decide) (fun c48 => ?_) (fun c48 => ?_)
        · skip
          have c48 : 4 < j36.toInt := i_ltT (X := 4) (Y := j36.toInt) rfl rfl c48
          refine lv_iload C.1 C.2.1 dX6_findScratches_49 (lv_at hl 1 rfl) ?_
          exact x_retiQ hQ B hw ⟨j37, rfl, rfl⟩ (Nat.le_of_ble_eq_true rfl) (Nat.le_of_ble_eq_true rfl) dX6_findScratches_51
        · skip
          have c48 : j36.toInt ≤ 4 := i_ltF (X := 4) (Y := j36.toInt) rfl rfl c48
          refine lv_aload_n C.1 C.2.1 dX6_findScratches_31 rfl (lv_at hl 2 rfl) ?_
          refine lv_aload_n C.1 C.2.1 dX6_findScratches_32 rfl (lv_at hl 3 rfl) ?_
          refine lv_iload C.1 C.2.1 dX6_findScratches_33 (lv_at hl 0 rfl) ?_
          refine lv_bipush (v := 16) C.1 C.2.1 dX6_findScratches_35 (by decide) ?_
          refine lv_iconst (v := 0) C.1 C.2.1 dX6_findScratches_37 (by decide) ?_
          refine x_calliV (As := [.ref qs, .int j36, .int 16, .int 0]) (rest := []) (wr := [(qa, .inr (7, [.int qa_hour, .int qa_heat, .int qa_black, .int qa_so, .int qa_cracked, .int qa_behind, .int qa_allSighs, .int qa_seed, .ref qa_pictures, .ref qa_shown, .ref qa_sighed]))]) C hw (s_X6_leastCells qf qs j36 16 0 qf_bestPath qf_bestSize qf_bestPassed qf_path qf_passing a1 qa_behind qs_slides qs_hearers qs_nears qs_lines qs_pass qs_spread qs_lamp qs_behind qs_settingsTold qs_slideNames qs_pictures qs_heats qs_after qs_hearerNames qs_needs qs_likes qs_hates qs_near qs_needs_c qs_likes_c qs_hates_c qs_near_c (by omega) (by omega) (by omega) (by omega)) mwX6_leastCells kw860 [0, 1, 2, 3, 4, 5] [6] rfl rfl rfl rfl (by decide) 0 rfl rfl rfl rfl hl.1 rfl (Nat.le_of_ble_eq_true rfl) ⟨(Nat.le_of_ble_eq_true rfl), (Nat.le_of_ble_eq_true rfl)⟩ ⟨(Nat.le_of_ble_eq_true rfl), (Nat.le_of_ble_eq_true rfl)⟩ dX6_findScratches_38 (fun r49 u9 H locs hp9 hw => ?_)
          obtain ⟨x50, rfl, rfl⟩ := hp9
          have hw : Wd G s A [(qa, .inr (7, [.int qa_hour, .int qa_heat, .int qa_black, .int qa_so, .int qa_cracked, .int qa_behind, .int qa_allSighs, .int qa_seed, .ref qa_pictures, .ref qa_shown, .ref qa_sighed])), (qf, .inr (5, [.ref qf_bestPath, .int qf_bestSize, .int qf_bestPassed, .ref qf_path, .int qf_passing, .int a1, .int qa_behind])), (qs, .inr (4, [.int qs_slides, .int qs_hearers, .int qs_nears, .int qs_lines, .int qs_pass, .int qs_spread, .int qs_lamp, .int qs_behind, .int qs_settingsTold, .ref qs_slideNames, .ref qs_pictures, .ref qs_heats, .ref qs_after, .ref qs_hearerNames, .ref qs_needs, .ref qs_likes, .ref qs_hates, .ref qs_near])), (qs_needs, eI G 8 qs_needs_c), (qs_likes, eI G 8 qs_likes_c), (qs_hates, eI G 8 qs_hates_c), (qs_near, eI G 8 qs_near_c)] H _ := hw
          refine lv_istore (lv' := [(4, .int r49), (5, .int j36), (0, .ref qf), (1, .ref qs)]) C.1 C.2.1 dX6_findScratches_41 hl (by decide) rfl (fun ls hl => ?_)
          obtain ⟨v51, ev51⟩ : ∃ z : Int32, j36 + 1 = z := ⟨_, rfl⟩
          have hv51 : v51.toInt = j36.toInt + 1 := by rw [← ev51]; exact i_add rfl rfl (by omega) (by omega)
          refine lv_iinc (v := v51) (lv' := [(5, .int v51), (4, .int r49), (0, .ref qf), (1, .ref qs)]) C.1 C.2.1 dX6_findScratches_43 hl (k := 1) rfl ev51 (by decide) rfl (fun ls hl => ?_)
          refine lv_goto (tgt := 19) C.1 C.2.1 dX6_findScratches_46 (by decide) ?_
          have hw := hw.sub (w' := [(qf, .inr (5, [.ref qf_bestPath, .int qf_bestSize, .int qf_bestPassed, .ref qf_path, .int qf_passing, .int a1, .int qa_behind])), (qs, .inr (4, [.int qs_slides, .int qs_hearers, .int qs_nears, .int qs_lines, .int qs_pass, .int qs_spread, .int qs_lamp, .int qs_behind, .int qs_settingsTold, .ref qs_slideNames, .ref qs_pictures, .ref qs_heats, .ref qs_after, .ref qs_hearerNames, .ref qs_needs, .ref qs_likes, .ref qs_hates, .ref qs_near])), (qs_needs, eI G 8 qs_needs_c), (qs_likes, eI G 8 qs_likes_c), (qs_hates, eI G 8 qs_hates_c), (qs_near, eI G 8 qs_near_c), (qa, .inr (7, [.int qa_hour, .int qa_heat, .int qa_black, .int qa_so, .int qa_cracked, .int qa_behind, .int qa_allSighs, .int qa_seed, .ref qa_pictures, .ref qa_shown, .ref qa_sighed]))]) [1, 2, 3, 4, 5, 6, 0] rfl rfl
          exact ihJ38 v51 r49 (by omega) (by omega) _ _ _ hw (lv_sub hl [0, 1, 2, 3] rfl)
  exact loopJ38 _ 0 (-1) (Nat.lt_succ_self _) (by decide) _ _ _ hw (lv_sub hl [0, 1, 2, 3] rfl)
