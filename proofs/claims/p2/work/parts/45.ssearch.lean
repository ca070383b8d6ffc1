-- needs: 4
theorem dX6_keepIfBetter_0 : decode cX6_keepIfBetter 0 = .ok (.iload_n 2, 1) := by decide +kernel
theorem dX6_keepIfBetter_1 : decode cX6_keepIfBetter 1 = .ok (.aload_n 0, 1) := by decide +kernel
theorem dX6_keepIfBetter_2 : decode cX6_keepIfBetter 2 = .ok (.getfield 49, 3) := by decide +kernel
theorem dX6_keepIfBetter_5 : decode cX6_keepIfBetter 5 = .ok (.if_icmp .le 28, 3) := by decide +kernel
theorem dX6_keepIfBetter_33 : decode cX6_keepIfBetter 33 = .ok (.return_, 1) := by decide +kernel
theorem dX6_keepIfBetter_8 : decode cX6_keepIfBetter 8 = .ok (.aload_n 0, 1) := by decide +kernel
theorem dX6_keepIfBetter_9 : decode cX6_keepIfBetter 9 = .ok (.iload_n 2, 1) := by decide +kernel
theorem dX6_keepIfBetter_10 : decode cX6_keepIfBetter 10 = .ok (.putfield 49, 3) := by decide +kernel
theorem dX6_keepIfBetter_13 : decode cX6_keepIfBetter 13 = .ok (.aload_n 0, 1) := by decide +kernel
theorem dX6_keepIfBetter_14 : decode cX6_keepIfBetter 14 = .ok (.iload_n 1, 1) := by decide +kernel
theorem dX6_keepIfBetter_15 : decode cX6_keepIfBetter 15 = .ok (.putfield 76, 3) := by decide +kernel
theorem dX6_keepIfBetter_18 : decode cX6_keepIfBetter 18 = .ok (.aload_n 0, 1) := by decide +kernel
theorem dX6_keepIfBetter_19 : decode cX6_keepIfBetter 19 = .ok (.getfield 15, 3) := by decide +kernel
theorem dX6_keepIfBetter_22 : decode cX6_keepIfBetter 22 = .ok (.iconst 0, 1) := by decide +kernel
theorem dX6_keepIfBetter_23 : decode cX6_keepIfBetter 23 = .ok (.aload_n 0, 1) := by decide +kernel
theorem dX6_keepIfBetter_24 : decode cX6_keepIfBetter 24 = .ok (.getfield 9, 3) := by decide +kernel
theorem dX6_keepIfBetter_27 : decode cX6_keepIfBetter 27 = .ok (.iconst 0, 1) := by decide +kernel
theorem dX6_keepIfBetter_28 : decode cX6_keepIfBetter 28 = .ok (.bipush 6, 2) := by decide +kernel
theorem dX6_keepIfBetter_30 : decode cX6_keepIfBetter 30 = .ok (.invokestatic 79, 3) := by decide +kernel
set_option maxHeartbeats 4000000 in
set_option maxRecDepth 100000 in
theorem s_X6_keepIfBetter {l : Launch} {G : Gc} (qf : Nat) (a1 : Int32) (a2 : Int32) (qf_bestPath : Nat) (qf_bestSize : Int32) (qf_bestPassed : Int32) (qf_path : Nat) (qf_passing : Int32) (qf_picture : Int32) (qf_behind : Int32) (qf_bestPath_c : Nat → Int32) (qf_path_c : Nat → Int32) (hi_a1 : 0 ≤ a1.toInt ∧ a1.toInt ≤ 6) (hi_qf_bestSize : 0 ≤ qf_bestSize.toInt ∧ qf_bestSize.toInt ≤ 6) : Cv l yX6_keepIfBetter cX6_keepIfBetter 3 1 0 0 G [.ref qf, .int a1, .int a2] [(qf, .inr (5, [.ref qf_bestPath, .int qf_bestSize, .int qf_bestPassed, .ref qf_path, .int qf_passing, .int qf_picture, .int qf_behind])), (qf_bestPath, eI G 6 qf_bestPath_c), (qf_path, eI G 6 qf_path_c)] (fun (u9 : va_W) => ∃ (x0_qf_bestSize : Int32) (x1_qf_bestPassed : Int32) (x2_qf_bestPath_c : Nat → Int32), u9 = [(qf, .inr (5, [.ref qf_bestPath, .int x0_qf_bestSize, .int x1_qf_bestPassed, .ref qf_path, .int qf_passing, .int qf_picture, .int qf_behind])), (qf_bestPath, eI G 6 x2_qf_bestPath_c), (qf_path, eI G 6 qf_path_c)] ∧ (0 ≤ x0_qf_bestSize.toInt ∧ x0_qf_bestSize.toInt ≤ 6)) := by
  refine Cv.ofQ (by decide) (Nat.le_of_ble_eq_true rfl) ?_
  intro p e s m below meth c ls A args Q hQ B hw hl
  have C : CallFix p m c cX6_keepIfBetter 3 s args gw "LanternState$Search" := B.1
  have hl : lv_has ls 3 [(0, .ref qf), (1, .int a1), (2, .int a2)] := hl
  refine lv_iload_n C.1 C.2.1 dX6_keepIfBetter_0 rfl (lv_at hl 2 rfl) ?_
  refine lv_aload_n C.1 C.2.1 dX6_keepIfBetter_1 rfl (lv_at hl 0 rfl) ?_
  refine x_get C hw iwX6 5 rfl 0 rfl 2 (by decide) kw381 rfl dX6_keepIfBetter_2 ?_
  refine lv_icmp_le (tgt := 33) C.1 C.2.1 dX6_keepIfBetter_5 (by decide) (fun c1 => ?_) (fun c1 => ?_)
  · skip
    have c1 : a2.toInt ≤ qf_bestPassed.toInt := i_leT (X := a2.toInt) (Y := qf_bestPassed.toInt) rfl rfl c1
    have bc1_a2 := i_bd a2
    have bc1_qf_bestPassed := i_bd qf_bestPassed
    exact x_retvQ hQ B hw ⟨qf_bestSize, qf_bestPassed, qf_bestPath_c, rfl, (by omega)⟩ (Nat.le_of_ble_eq_true rfl) (Nat.le_of_ble_eq_true rfl) dX6_keepIfBetter_33
  · skip
    have c1 : qf_bestPassed.toInt < a2.toInt := i_leF (X := a2.toInt) (Y := qf_bestPassed.toInt) rfl rfl c1
    have bc1_a2 := i_bd a2
    have bc1_qf_bestPassed := i_bd qf_bestPassed
    refine lv_aload_n C.1 C.2.1 dX6_keepIfBetter_8 rfl (lv_at hl 0 rfl) ?_
    refine lv_iload_n C.1 C.2.1 dX6_keepIfBetter_9 rfl (lv_at hl 2 rfl) ?_
    refine x_put (w' := [(qf, .inr (5, [.ref qf_bestPath, .int qf_bestSize, .int a2, .ref qf_path, .int qf_passing, .int qf_picture, .int qf_behind])), (qf_bestPath, eI G 6 qf_bestPath_c), (qf_path, eI G 6 qf_path_c)]) C hw iwX6 tyX6_ok nmX6 5 rfl 0 rfl 2 (by decide) kw381 rfl rfl rfl (Nat.le_of_ble_eq_true rfl) rfl dX6_keepIfBetter_10 (fun H locs hw => ?_)
    refine lv_aload_n C.1 C.2.1 dX6_keepIfBetter_13 rfl (lv_at hl 0 rfl) ?_
    refine lv_iload_n C.1 C.2.1 dX6_keepIfBetter_14 rfl (lv_at hl 1 rfl) ?_
    refine x_put (w' := [(qf, .inr (5, [.ref qf_bestPath, .int a1, .int a2, .ref qf_path, .int qf_passing, .int qf_picture, .int qf_behind])), (qf_bestPath, eI G 6 qf_bestPath_c), (qf_path, eI G 6 qf_path_c)]) C hw iwX6 tyX6_ok nmX6 5 rfl 0 rfl 1 (by decide) kw379 rfl rfl rfl (Nat.le_of_ble_eq_true rfl) rfl dX6_keepIfBetter_15 (fun H locs hw => ?_)
    refine lv_aload_n C.1 C.2.1 dX6_keepIfBetter_18 rfl (lv_at hl 0 rfl) ?_
    refine x_get C hw iwX6 5 rfl 0 rfl 3 (by decide) kw382 rfl dX6_keepIfBetter_19 ?_
    refine lv_iconst (v := 0) C.1 C.2.1 dX6_keepIfBetter_22 (by decide) ?_
    refine lv_aload_n C.1 C.2.1 dX6_keepIfBetter_23 rfl (lv_at hl 0 rfl) ?_
    refine x_get C hw iwX6 5 rfl 0 rfl 0 (by decide) kw377 rfl dX6_keepIfBetter_24 ?_
    refine lv_iconst (v := 0) C.1 C.2.1 dX6_keepIfBetter_27 (by decide) ?_
    refine lv_bipush (v := 6) C.1 C.2.1 dX6_keepIfBetter_28 (by decide) ?_
    obtain ⟨g2, eg2⟩ : ∃ z, va_cpy qf_path_c qf_bestPath_c 0 0 6 = z := ⟨_, rfl⟩
    refine x_copyi (g' := g2) (w' := [(qf, .inr (5, [.ref qf_bestPath, .int a1, .int a2, .ref qf_path, .int qf_passing, .int qf_picture, .int qf_behind])), (qf_bestPath, eI G 6 g2), (qf_path, eI G 6 qf_path_c)]) C hw kw828 hl.1 2 1 rfl rfl (by decide) (by decide) (by decide) (Nat.le_of_ble_eq_true rfl) (Nat.le_of_ble_eq_true rfl) eg2 rfl (Nat.le_of_ble_eq_true rfl) (Nat.le_of_ble_eq_true rfl) dX6_keepIfBetter_30 (fun H locs hw => ?_)
    exact x_retvQ hQ B hw ⟨a1, a2, g2, rfl, (by omega)⟩ (Nat.le_of_ble_eq_true rfl) (Nat.le_of_ble_eq_true rfl) dX6_keepIfBetter_33
theorem dX6_goOn_0 : decode cX6_goOn 0 = .ok (.iconst 1, 1) := by decide +kernel
theorem dX6_goOn_1 : decode cX6_goOn 1 = .ok (.istore 7, 2) := by decide +kernel
theorem dX6_goOn_3 : decode cX6_goOn 3 = .ok (.iconst 0, 1) := by decide +kernel
theorem dX6_goOn_4 : decode cX6_goOn 4 = .ok (.istore 8, 2) := by decide +kernel
theorem dX6_goOn_6 : decode cX6_goOn 6 = .ok (.iload_n 2, 1) := by decide +kernel
theorem dX6_goOn_7 : decode cX6_goOn 7 = .ok (.bipush 6, 2) := by decide +kernel
theorem dX6_goOn_9 : decode cX6_goOn 9 = .ok (.if_icmp .ge 153, 3) := by decide +kernel
theorem dX6_goOn_12 : decode cX6_goOn 12 = .ok (.iload 8, 2) := by decide +kernel
theorem dX6_goOn_14 : decode cX6_goOn 14 = .ok (.aload_n 1, 1) := by decide +kernel
theorem dX6_goOn_15 : decode cX6_goOn 15 = .ok (.getfield 22, 3) := by decide +kernel
theorem dX6_goOn_18 : decode cX6_goOn 18 = .ok (.if_icmp .ge 144, 3) := by decide +kernel
theorem dX6_goOn_21 : decode cX6_goOn 21 = .ok (.aload_n 1, 1) := by decide +kernel
theorem dX6_goOn_22 : decode cX6_goOn 22 = .ok (.getfield 67, 3) := by decide +kernel
theorem dX6_goOn_25 : decode cX6_goOn 25 = .ok (.iload 8, 2) := by decide +kernel
theorem dX6_goOn_27 : decode cX6_goOn 27 = .ok (.iaload, 1) := by decide +kernel
theorem dX6_goOn_28 : decode cX6_goOn 28 = .ok (.istore 9, 2) := by decide +kernel
theorem dX6_goOn_30 : decode cX6_goOn 30 = .ok (.iload 9, 2) := by decide +kernel
theorem dX6_goOn_32 : decode cX6_goOn 32 = .ok (.iconst (-1), 1) := by decide +kernel
theorem dX6_goOn_33 : decode cX6_goOn 33 = .ok (.if_icmp .eq 17, 3) := by decide +kernel
theorem dX6_goOn_50 : decode cX6_goOn 50 = .ok (.iconst 0, 1) := by decide +kernel
theorem dX6_goOn_36 : decode cX6_goOn 36 = .ok (.iload 4, 2) := by decide +kernel
theorem dX6_goOn_38 : decode cX6_goOn 38 = .ok (.iload 9, 2) := by decide +kernel
theorem dX6_goOn_40 : decode cX6_goOn 40 = .ok (.ishr, 1) := by decide +kernel
theorem dX6_goOn_41 : decode cX6_goOn 41 = .ok (.iconst 1, 1) := by decide +kernel
theorem dX6_goOn_42 : decode cX6_goOn 42 = .ok (.iand, 1) := by decide +kernel
theorem dX6_goOn_43 : decode cX6_goOn 43 = .ok (.ifCond .ne 7, 3) := by decide +kernel
theorem dX6_goOn_46 : decode cX6_goOn 46 = .ok (.iconst 1, 1) := by decide +kernel
theorem dX6_goOn_47 : decode cX6_goOn 47 = .ok (.goto 4, 3) := by decide +kernel
theorem dX6_goOn_51 : decode cX6_goOn 51 = .ok (.istore 10, 2) := by decide +kernel
theorem dX6_goOn_53 : decode cX6_goOn 53 = .ok (.iload_n 3, 1) := by decide +kernel
theorem dX6_goOn_54 : decode cX6_goOn 54 = .ok (.iload 8, 2) := by decide +kernel
theorem dX6_goOn_56 : decode cX6_goOn 56 = .ok (.ishr, 1) := by decide +kernel
theorem dX6_goOn_57 : decode cX6_goOn 57 = .ok (.iconst 1, 1) := by decide +kernel
theorem dX6_goOn_58 : decode cX6_goOn 58 = .ok (.iand, 1) := by decide +kernel
theorem dX6_goOn_59 : decode cX6_goOn 59 = .ok (.ifCond .eq 97, 3) := by decide +kernel
theorem dX6_goOn_62 : decode cX6_goOn 62 = .ok (.iload 10, 2) := by decide +kernel
theorem dX6_goOn_64 : decode cX6_goOn 64 = .ok (.ifCond .eq 6, 3) := by decide +kernel
theorem dX6_goOn_70 : decode cX6_goOn 70 = .ok (.iconst 0, 1) := by decide +kernel
theorem dX6_goOn_71 : decode cX6_goOn 71 = .ok (.istore 7, 2) := by decide +kernel
theorem dX6_goOn_73 : decode cX6_goOn 73 = .ok (.aload_n 0, 1) := by decide +kernel
theorem dX6_goOn_74 : decode cX6_goOn 74 = .ok (.getfield 15, 3) := by decide +kernel
theorem dX6_goOn_77 : decode cX6_goOn 77 = .ok (.iload_n 2, 1) := by decide +kernel
theorem dX6_goOn_78 : decode cX6_goOn 78 = .ok (.iload 8, 2) := by decide +kernel
theorem dX6_goOn_80 : decode cX6_goOn 80 = .ok (.iastore, 1) := by decide +kernel
theorem dX6_goOn_81 : decode cX6_goOn 81 = .ok (.iload 5, 2) := by decide +kernel
theorem dX6_goOn_83 : decode cX6_goOn 83 = .ok (.aload_n 1, 1) := by decide +kernel
theorem dX6_goOn_84 : decode cX6_goOn 84 = .ok (.getfield 70, 3) := by decide +kernel
theorem dX6_goOn_87 : decode cX6_goOn 87 = .ok (.iload 8, 2) := by decide +kernel
theorem dX6_goOn_89 : decode cX6_goOn 89 = .ok (.iaload, 1) := by decide +kernel
theorem dX6_goOn_90 : decode cX6_goOn 90 = .ok (.iadd, 1) := by decide +kernel
theorem dX6_goOn_91 : decode cX6_goOn 91 = .ok (.istore 11, 2) := by decide +kernel
theorem dX6_goOn_93 : decode cX6_goOn 93 = .ok (.iload 11, 2) := by decide +kernel
theorem dX6_goOn_95 : decode cX6_goOn 95 = .ok (.aload_n 1, 1) := by decide +kernel
theorem dX6_goOn_96 : decode cX6_goOn 96 = .ok (.getfield 73, 3) := by decide +kernel
theorem dX6_goOn_99 : decode cX6_goOn 99 = .ok (.if_icmp .le 15, 3) := by decide +kernel
theorem dX6_goOn_114 : decode cX6_goOn 114 = .ok (.aload_n 0, 1) := by decide +kernel
theorem dX6_goOn_115 : decode cX6_goOn 115 = .ok (.getfield 18, 3) := by decide +kernel
theorem dX6_goOn_118 : decode cX6_goOn 118 = .ok (.iload 8, 2) := by decide +kernel
theorem dX6_goOn_120 : decode cX6_goOn 120 = .ok (.ishr, 1) := by decide +kernel
theorem dX6_goOn_121 : decode cX6_goOn 121 = .ok (.iconst 1, 1) := by decide +kernel
theorem dX6_goOn_122 : decode cX6_goOn 122 = .ok (.iand, 1) := by decide +kernel
theorem dX6_goOn_123 : decode cX6_goOn 123 = .ok (.istore 12, 2) := by decide +kernel
theorem dX6_goOn_125 : decode cX6_goOn 125 = .ok (.aload_n 0, 1) := by decide +kernel
theorem dX6_goOn_126 : decode cX6_goOn 126 = .ok (.aload_n 1, 1) := by decide +kernel
theorem dX6_goOn_127 : decode cX6_goOn 127 = .ok (.iload_n 2, 1) := by decide +kernel
theorem dX6_goOn_128 : decode cX6_goOn 128 = .ok (.iconst 1, 1) := by decide +kernel
theorem dX6_goOn_129 : decode cX6_goOn 129 = .ok (.iadd, 1) := by decide +kernel
theorem dX6_goOn_130 : decode cX6_goOn 130 = .ok (.iload_n 3, 1) := by decide +kernel
theorem dX6_goOn_131 : decode cX6_goOn 131 = .ok (.iconst 1, 1) := by decide +kernel
theorem dX6_goOn_132 : decode cX6_goOn 132 = .ok (.iload 8, 2) := by decide +kernel
theorem dX6_goOn_134 : decode cX6_goOn 134 = .ok (.ishl, 1) := by decide +kernel
theorem dX6_goOn_135 : decode cX6_goOn 135 = .ok (.iconst (-1), 1) := by decide +kernel
theorem dX6_goOn_136 : decode cX6_goOn 136 = .ok (.ixor, 1) := by decide +kernel
theorem dX6_goOn_137 : decode cX6_goOn 137 = .ok (.iand, 1) := by decide +kernel
theorem dX6_goOn_138 : decode cX6_goOn 138 = .ok (.iload 4, 2) := by decide +kernel
theorem dX6_goOn_140 : decode cX6_goOn 140 = .ok (.iload 12, 2) := by decide +kernel
theorem dX6_goOn_142 : decode cX6_goOn 142 = .ok (.iload 8, 2) := by decide +kernel
theorem dX6_goOn_144 : decode cX6_goOn 144 = .ok (.ishl, 1) := by decide +kernel
theorem dX6_goOn_145 : decode cX6_goOn 145 = .ok (.ior, 1) := by decide +kernel
theorem dX6_goOn_146 : decode cX6_goOn 146 = .ok (.iload 11, 2) := by decide +kernel
theorem dX6_goOn_148 : decode cX6_goOn 148 = .ok (.iload 6, 2) := by decide +kernel
theorem dX6_goOn_150 : decode cX6_goOn 150 = .ok (.iload 12, 2) := by decide +kernel
theorem dX6_goOn_152 : decode cX6_goOn 152 = .ok (.iadd, 1) := by decide +kernel
theorem dX6_goOn_153 : decode cX6_goOn 153 = .ok (.invokevirtual 63, 3) := by decide +kernel
theorem mwX6_goOn : MwV yX6_goOn cX6_goOn 13 none 6 := ⟨⟨kw832, kw12, by decide +kernel⟩, kw831, kS21⟩
theorem dX6_goOn_102 : decode cX6_goOn 102 = .ok (.aload_n 0, 1) := by decide +kernel
theorem dX6_goOn_103 : decode cX6_goOn 103 = .ok (.iload_n 2, 1) := by decide +kernel
theorem dX6_goOn_104 : decode cX6_goOn 104 = .ok (.iconst 1, 1) := by decide +kernel
theorem dX6_goOn_105 : decode cX6_goOn 105 = .ok (.iadd, 1) := by decide +kernel
theorem dX6_goOn_106 : decode cX6_goOn 106 = .ok (.iload 6, 2) := by decide +kernel
theorem dX6_goOn_108 : decode cX6_goOn 108 = .ok (.invokevirtual 56, 3) := by decide +kernel
theorem mwX6_keepIfBetter : MwV yX6_keepIfBetter cX6_keepIfBetter 3 none 2 := ⟨⟨kw827, kw12, by decide +kernel⟩, kw826, kS20⟩
theorem dX6_goOn_111 : decode cX6_goOn 111 = .ok (.goto 45, 3) := by decide +kernel
theorem dX6_goOn_67 : decode cX6_goOn 67 = .ok (.goto 89, 3) := by decide +kernel
theorem dX6_goOn_156 : decode cX6_goOn 156 = .ok (.iinc 8 1, 3) := by decide +kernel
theorem dX6_goOn_159 : decode cX6_goOn 159 = .ok (.goto (-153), 3) := by decide +kernel
theorem dX6_goOn_162 : decode cX6_goOn 162 = .ok (.iload 7, 2) := by decide +kernel
theorem dX6_goOn_164 : decode cX6_goOn 164 = .ok (.ifCond .eq 10, 3) := by decide +kernel
theorem dX6_goOn_174 : decode cX6_goOn 174 = .ok (.return_, 1) := by decide +kernel
theorem dX6_goOn_167 : decode cX6_goOn 167 = .ok (.aload_n 0, 1) := by decide +kernel
theorem dX6_goOn_168 : decode cX6_goOn 168 = .ok (.iload_n 2, 1) := by decide +kernel
theorem dX6_goOn_169 : decode cX6_goOn 169 = .ok (.iload 6, 2) := by decide +kernel
theorem dX6_goOn_171 : decode cX6_goOn 171 = .ok (.invokevirtual 56, 3) := by decide +kernel
set_option maxHeartbeats 4000000 in
set_option maxRecDepth 100000 in
theorem s_X6_goOn_n {l : Launch} {G : Gc} (n : Nat) : ∀ (qf : Nat) (qs : Nat) (a1 : Int32) (a2 : Int32) (a3 : Int32) (a4 : Int32) (a5 : Int32) (qf_bestPath : Nat) (qf_bestSize : Int32) (qf_bestPassed : Int32) (qf_path : Nat) (qf_passing : Int32) (qf_picture : Int32) (qf_behind : Int32) (qf_bestPath_c : Nat → Int32) (qf_path_c : Nat → Int32) (qs_slides : Int32) (qs_hearers : Int32) (qs_nears : Int32) (qs_lines : Int32) (qs_pass : Int32) (qs_spread : Int32) (qs_lamp : Int32) (qs_behind : Int32) (qs_settingsTold : Int32) (qs_slideNames : Nat) (qs_pictures : Nat) (qs_heats : Nat) (qs_after : Nat) (qs_hearerNames : Nat) (qs_needs : Nat) (qs_likes : Nat) (qs_hates : Nat) (qs_near : Nat) (qs_heats_c : Nat → Int32) (qs_after_c : Nat → Int32), (0 ≤ a1.toInt ∧ a1.toInt ≤ 6) → (0 ≤ qf_bestSize.toInt ∧ qf_bestSize.toInt ≤ 6) → (0 ≤ qs_slides.toInt ∧ qs_slides.toInt ≤ 6) → (0 ≤ qs_hearers.toInt ∧ qs_hearers.toInt ≤ 8) → (inA 6 (-1) 5 qs_after_c) → (6 - a1.toInt < (n : Int)) → Cv l yX6_goOn cX6_goOn 13 (3 + 1 * n) 0 0 G [.ref qf, .ref qs, .int a1, .int a2, .int a3, .int a4, .int a5] [(qf, .inr (5, [.ref qf_bestPath, .int qf_bestSize, .int qf_bestPassed, .ref qf_path, .int qf_passing, .int qf_picture, .int qf_behind])), (qf_bestPath, eI G 6 qf_bestPath_c), (qf_path, eI G 6 qf_path_c), (qs, .inr (4, [.int qs_slides, .int qs_hearers, .int qs_nears, .int qs_lines, .int qs_pass, .int qs_spread, .int qs_lamp, .int qs_behind, .int qs_settingsTold, .ref qs_slideNames, .ref qs_pictures, .ref qs_heats, .ref qs_after, .ref qs_hearerNames, .ref qs_needs, .ref qs_likes, .ref qs_hates, .ref qs_near])), (qs_heats, eI G 6 qs_heats_c), (qs_after, eI G 6 qs_after_c)] (fun (u9 : va_W) => ∃ (x0_qf_bestSize : Int32) (x1_qf_bestPassed : Int32) (x2_qf_bestPath_c : Nat → Int32) (x3_qf_path_c : Nat → Int32), u9 = [(qf, .inr (5, [.ref qf_bestPath, .int x0_qf_bestSize, .int x1_qf_bestPassed, .ref qf_path, .int qf_passing, .int qf_picture, .int qf_behind])), (qf_bestPath, eI G 6 x2_qf_bestPath_c), (qf_path, eI G 6 x3_qf_path_c), (qs, .inr (4, [.int qs_slides, .int qs_hearers, .int qs_nears, .int qs_lines, .int qs_pass, .int qs_spread, .int qs_lamp, .int qs_behind, .int qs_settingsTold, .ref qs_slideNames, .ref qs_pictures, .ref qs_heats, .ref qs_after, .ref qs_hearerNames, .ref qs_needs, .ref qs_likes, .ref qs_hates, .ref qs_near])), (qs_heats, eI G 6 qs_heats_c), (qs_after, eI G 6 qs_after_c)] ∧ (0 ≤ x0_qf_bestSize.toInt ∧ x0_qf_bestSize.toInt ≤ 6)) := by
  induction n with
  | zero => intro qf qs a1 a2 a3 a4 a5 qf_bestPath qf_bestSize qf_bestPassed qf_path qf_passing qf_picture qf_behind qf_bestPath_c qf_path_c qs_slides qs_hearers qs_nears qs_lines qs_pass qs_spread qs_lamp qs_behind qs_settingsTold qs_slideNames qs_pictures qs_heats qs_after qs_hearerNames qs_needs qs_likes qs_hates qs_near qs_heats_c qs_after_c hi_a1 hi_qf_bestSize hi_qs_slides hi_qs_hearers hf_qs_after_c hme; exfalso; omega
  | succ n ih =>
    intro qf qs a1 a2 a3 a4 a5 qf_bestPath qf_bestSize qf_bestPassed qf_path qf_passing qf_picture qf_behind qf_bestPath_c qf_path_c qs_slides qs_hearers qs_nears qs_lines qs_pass qs_spread qs_lamp qs_behind qs_settingsTold qs_slideNames qs_pictures qs_heats qs_after qs_hearerNames qs_needs qs_likes qs_hates qs_near qs_heats_c qs_after_c hi_a1 hi_qf_bestSize hi_qs_slides hi_qs_hearers hf_qs_after_c hme
    refine Cv.ofQ (by decide) (Nat.le_of_ble_eq_true rfl) ?_
    intro p e s m below meth c ls A args Q hQ B hw hl
    have C : CallFix p m c cX6_goOn 13 s args gw "LanternState$Search" := B.1
    have hl : lv_has ls 13 [(0, .ref qf), (1, .ref qs), (2, .int a1), (3, .int a2), (4, .int a3), (5, .int a4), (6, .int a5)] := hl
    refine lv_iconst (v := 1) C.1 C.2.1 dX6_goOn_0 (by decide) ?_
    refine lv_istore (lv' := [(7, .int 1), (0, .ref qf), (1, .ref qs), (2, .int a1), (3, .int a2), (4, .int a3), (5, .int a4), (6, .int a5)]) C.1 C.2.1 dX6_goOn_1 hl (by decide) rfl (fun ls hl => ?_)
    refine lv_iconst (v := 0) C.1 C.2.1 dX6_goOn_3 (by decide) ?_
    refine lv_istore (lv' := [(8, .int 0), (7, .int 1), (0, .ref qf), (1, .ref qs), (2, .int a1), (3, .int a2), (4, .int a3), (5, .int a4), (6, .int a5)]) C.1 C.2.1 dX6_goOn_4 hl (by decide) rfl (fun ls hl => ?_)
    have loopJ205 : ∀ (n9 : Nat) (j199 : Int32) (j200 : Int32) (j201 : Int32) (j202 : Int32) (j203 : Nat → Int32) (j204 : Nat → Int32), (2147483647 - j199.toInt).toNat < n9 → (0 ≤ j199.toInt ∧ j199.toInt ≤ 6) → (0 ≤ j200.toInt ∧ j200.toInt ≤ 1) → (0 ≤ j201.toInt ∧ j201.toInt ≤ 6) → ∀ (H : Heap) (locs : List Loc) (ls : Array Slot), Wd G s A [(qf, .inr (5, [.ref qf_bestPath, .int j201, .int j202, .ref qf_path, .int qf_passing, .int qf_picture, .int qf_behind])), (qf_bestPath, eI G 6 j203), (qf_path, eI G 6 j204), (qs, .inr (4, [.int qs_slides, .int qs_hearers, .int qs_nears, .int qs_lines, .int qs_pass, .int qs_spread, .int qs_lamp, .int qs_behind, .int qs_settingsTold, .ref qs_slideNames, .ref qs_pictures, .ref qs_heats, .ref qs_after, .ref qs_hearerNames, .ref qs_needs, .ref qs_likes, .ref qs_hates, .ref qs_near])), (qs_heats, eI G 6 qs_heats_c), (qs_after, eI G 6 qs_after_c)] H locs → lv_has ls 13 [(8, .int j199), (7, .int j200), (0, .ref qf), (1, .ref qs), (2, .int a1), (3, .int a2), (4, .int a3), (5, .int a4), (6, .int a5)] → W p l e (rmD (3 + 1 * (n + 1)) 0 0) s m args below meth c H locs 0 0 Q (F0 m 6 ls []) := by
      intro n9
      induction n9 with
      | zero => intro j199 j200 j201 j202 j203 j204 h9; exact absurd h9 (Nat.not_lt_zero _)
      | succ n9 ihJ205 =>
        intro j199 j200 j201 j202 j203 j204 h9J205 hJ205_0 hJ205_1 hJ205_2 H locs ls hw hl
        have hbj199 := i_bd j199
        refine lv_iload_n C.1 C.2.1 dX6_goOn_6 rfl (lv_at hl 4 rfl) ?_
        refine lv_bipush (v := 6) C.1 C.2.1 dX6_goOn_7 (by decide) ?_
        refine lv_icmp_ge (tgt := 162) C.1 C.2.1 dX6_goOn_9 (by decide) (fun c249 => ?_) (fun c249 => ?_)
        · skip
          have c249 : 6 ≤ a1.toInt := i_leT (X := 6) (Y := a1.toInt) rfl rfl c249
          refine lv_iload C.1 C.2.1 dX6_goOn_162 (lv_at hl 1 rfl) ?_
          refine lv_if_eq (tgt := 174) C.1 C.2.1 dX6_goOn_164 (by decide) (fun c250 => ?_) (fun c250 => ?_)
          · skip
            have c250 : j200.toInt = 0 := i_eqT (X := j200.toInt) (Y := 0) rfl rfl c250
            exact x_retvQ hQ B hw ⟨j201, j202, j203, j204, rfl, (by omega)⟩ (Nat.le_of_ble_eq_true rfl) (Nat.le_of_ble_eq_true rfl) dX6_goOn_174
          · skip
            have c250 : j200.toInt ≠ 0 := i_eqF (X := j200.toInt) (Y := 0) rfl rfl c250
            refine lv_aload_n C.1 C.2.1 dX6_goOn_167 rfl (lv_at hl 2 rfl) ?_
            refine lv_iload_n C.1 C.2.1 dX6_goOn_168 rfl (lv_at hl 4 rfl) ?_
            refine lv_iload C.1 C.2.1 dX6_goOn_169 (lv_at hl 8 rfl) ?_
            refine x_callvV (As := [.int a1, .int a5]) (rest := []) (wr := [(qs, .inr (4, [.int qs_slides, .int qs_hearers, .int qs_nears, .int qs_lines, .int qs_pass, .int qs_spread, .int qs_lamp, .int qs_behind, .int qs_settingsTold, .ref qs_slideNames, .ref qs_pictures, .ref qs_heats, .ref qs_after, .ref qs_hearerNames, .ref qs_needs, .ref qs_likes, .ref qs_hates, .ref qs_near])), (qs_heats, eI G 6 qs_heats_c), (qs_after, eI G 6 qs_after_c)]) C hw (s_X6_keepIfBetter qf a1 a5 qf_bestPath j201 j202 qf_path qf_passing qf_picture qf_behind j203 j204 (by omega) (by omega)) mwX6_keepIfBetter kw824 [0, 1, 2] [3, 4, 5] rfl rfl rfl rfl (by decide) 0 rfl rfl rfl rfl hl.1 rfl (Nat.le_of_ble_eq_true rfl) ⟨(by dsimp only [rmD]; omega), (by dsimp only [rmD]; omega)⟩ ⟨(Nat.le_of_ble_eq_true rfl), (Nat.le_of_ble_eq_true rfl)⟩ dX6_goOn_171 (fun  u9 H locs hp9 hw => ?_)
            obtain ⟨x251, x252, x253, rfl, hf254⟩ := hp9
            have hw : Wd G s A [(qs, .inr (4, [.int qs_slides, .int qs_hearers, .int qs_nears, .int qs_lines, .int qs_pass, .int qs_spread, .int qs_lamp, .int qs_behind, .int qs_settingsTold, .ref qs_slideNames, .ref qs_pictures, .ref qs_heats, .ref qs_after, .ref qs_hearerNames, .ref qs_needs, .ref qs_likes, .ref qs_hates, .ref qs_near])), (qs_heats, eI G 6 qs_heats_c), (qs_after, eI G 6 qs_after_c), (qf, .inr (5, [.ref qf_bestPath, .int x251, .int x252, .ref qf_path, .int qf_passing, .int qf_picture, .int qf_behind])), (qf_bestPath, eI G 6 x253), (qf_path, eI G 6 j204)] H _ := hw
            have hw := hw.sub (w' := [(qf, .inr (5, [.ref qf_bestPath, .int x251, .int x252, .ref qf_path, .int qf_passing, .int qf_picture, .int qf_behind])), (qf_bestPath, eI G 6 x253), (qf_path, eI G 6 j204), (qs, .inr (4, [.int qs_slides, .int qs_hearers, .int qs_nears, .int qs_lines, .int qs_pass, .int qs_spread, .int qs_lamp, .int qs_behind, .int qs_settingsTold, .ref qs_slideNames, .ref qs_pictures, .ref qs_heats, .ref qs_after, .ref qs_hearerNames, .ref qs_needs, .ref qs_likes, .ref qs_hates, .ref qs_near])), (qs_heats, eI G 6 qs_heats_c), (qs_after, eI G 6 qs_after_c)]) [3, 4, 5, 0, 1, 2] rfl rfl
            exact x_retvQ hQ B hw ⟨x251, x252, x253, j204, rfl, (by omega)⟩ (Nat.le_of_ble_eq_true rfl) (Nat.le_of_ble_eq_true rfl) dX6_goOn_174
        · skip
          have c249 : a1.toInt < 6 := i_leF (X := 6) (Y := a1.toInt) rfl rfl c249
          refine lv_iload C.1 C.2.1 dX6_goOn_12 (lv_at hl 0 rfl) ?_
          refine lv_aload_n C.1 C.2.1 dX6_goOn_14 rfl (lv_at hl 3 rfl) ?_
          refine x_get C hw iwX5 4 rfl 3 rfl 0 (by decide) kw148 rfl dX6_goOn_15 ?_
          refine lv_icmp_ge (tgt := 162) C.1 C.2.1 dX6_goOn_18 (by decide) (fun c255 => ?_) (fun c255 => ?_)
          · skip
            have c255 : qs_slides.toInt ≤ j199.toInt := i_leT (X := qs_slides.toInt) (Y := j199.toInt) rfl rfl c255
            refine lv_iload C.1 C.2.1 dX6_goOn_162 (lv_at hl 1 rfl) ?_
            refine lv_if_eq (tgt := 174) C.1 C.2.1 dX6_goOn_164 (by decide) (fun c256 => ?_) (fun c256 => ?_)
            · skip
              have c256 : j200.toInt = 0 := i_eqT (X := j200.toInt) (Y := 0) rfl rfl c256
              exact x_retvQ hQ B hw ⟨j201, j202, j203, j204, rfl, (by omega)⟩ (Nat.le_of_ble_eq_true rfl) (Nat.le_of_ble_eq_true rfl) dX6_goOn_174
            · skip
              have c256 : j200.toInt ≠ 0 := i_eqF (X := j200.toInt) (Y := 0) rfl rfl c256
              refine lv_aload_n C.1 C.2.1 dX6_goOn_167 rfl (lv_at hl 2 rfl) ?_
              refine lv_iload_n C.1 C.2.1 dX6_goOn_168 rfl (lv_at hl 4 rfl) ?_
              refine lv_iload C.1 C.2.1 dX6_goOn_169 (lv_at hl 8 rfl) ?_
              refine x_callvV (As := [.int a1, .int a5]) (rest := []) (wr := [(qs, .inr (4, [.int qs_slides, .int qs_hearers, .int qs_nears, .int qs_lines, .int qs_pass, .int qs_spread, .int qs_lamp, .int qs_behind, .int qs_settingsTold, .ref qs_slideNames, .ref qs_pictures, .ref qs_heats, .ref qs_after, .ref qs_hearerNames, .ref qs_needs, .ref qs_likes, .ref qs_hates, .ref qs_near])), (qs_heats, eI G 6 qs_heats_c), (qs_after, eI G 6 qs_after_c)]) C hw (s_X6_keepIfBetter qf a1 a5 qf_bestPath j201 j202 qf_path qf_passing qf_picture qf_behind j203 j204 (by omega) (by omega)) mwX6_keepIfBetter kw824 [0, 1, 2] [3, 4, 5] rfl rfl rfl rfl (by decide) 0 rfl rfl rfl rfl hl.1 rfl (Nat.le_of_ble_eq_true rfl) ⟨(by dsimp only [rmD]; omega), (by dsimp only [rmD]; omega)⟩ ⟨(Nat.le_of_ble_eq_true rfl), (Nat.le_of_ble_eq_true rfl)⟩ dX6_goOn_171 (fun  u9 H locs hp9 hw => ?_)
              obtain ⟨x257, x258, x259, rfl, hf260⟩ := hp9
              have hw : Wd G s A [(qs, .inr (4, [.int qs_slides, .int qs_hearers, .int qs_nears, .int qs_lines, .int qs_pass, .int qs_spread, .int qs_lamp, .int qs_behind, .int qs_settingsTold, .ref qs_slideNames, .ref qs_pictures, .ref qs_heats, .ref qs_after, .ref qs_hearerNames, .ref qs_needs, .ref qs_likes, .ref qs_hates, .ref qs_near])), (qs_heats, eI G 6 qs_heats_c), (qs_after, eI G 6 qs_after_c), (qf, .inr (5, [.ref qf_bestPath, .int x257, .int x258, .ref qf_path, .int qf_passing, .int qf_picture, .int qf_behind])), (qf_bestPath, eI G 6 x259), (qf_path, eI G 6 j204)] H _ := hw
              have hw := hw.sub (w' := [(qf, .inr (5, [.ref qf_bestPath, .int x257, .int x258, .ref qf_path, .int qf_passing, .int qf_picture, .int qf_behind])), (qf_bestPath, eI G 6 x259), (qf_path, eI G 6 j204), (qs, .inr (4, [.int qs_slides, .int qs_hearers, .int qs_nears, .int qs_lines, .int qs_pass, .int qs_spread, .int qs_lamp, .int qs_behind, .int qs_settingsTold, .ref qs_slideNames, .ref qs_pictures, .ref qs_heats, .ref qs_after, .ref qs_hearerNames, .ref qs_needs, .ref qs_likes, .ref qs_hates, .ref qs_near])), (qs_heats, eI G 6 qs_heats_c), (qs_after, eI G 6 qs_after_c)]) [3, 4, 5, 0, 1, 2] rfl rfl
              exact x_retvQ hQ B hw ⟨x257, x258, x259, j204, rfl, (by omega)⟩ (Nat.le_of_ble_eq_true rfl) (Nat.le_of_ble_eq_true rfl) dX6_goOn_174
          · skip
            have c255 : j199.toInt < qs_slides.toInt := i_leF (X := qs_slides.toInt) (Y := j199.toInt) rfl rfl c255
            refine lv_aload_n C.1 C.2.1 dX6_goOn_21 rfl (lv_at hl 3 rfl) ?_
            refine x_get C hw iwX5 4 rfl 3 rfl 12 (by decide) kw181 rfl dX6_goOn_22 ?_
            refine lv_iload C.1 C.2.1 dX6_goOn_25 (lv_at hl 0 rfl) ?_
            refine x_iald (v := (qs_after_c j199.toNatClampNeg)) C hw 5 rfl (i_in (by omega) (by omega)) rfl dX6_goOn_27 (x_genP (fun z : Int32 => -1 ≤ z.toInt ∧ z.toInt ≤ 5) (hf_qs_after_c _ (i_cl (by omega) (by omega))) (fun v261 hv261 => ?_))
            refine lv_istore (lv' := [(9, .int v261), (8, .int j199), (7, .int j200), (0, .ref qf), (1, .ref qs), (2, .int a1), (3, .int a2), (4, .int a3), (5, .int a4), (6, .int a5)]) C.1 C.2.1 dX6_goOn_28 hl (by decide) rfl (fun ls hl => ?_)
            refine lv_iload C.1 C.2.1 dX6_goOn_30 (lv_at hl 0 rfl) ?_
            refine lv_iconst (v := (-1)) C.1 C.2.1 dX6_goOn_32 (by decide) ?_
            have J267 : ∀ (j266 : Int32), (0 ≤ j266.toInt ∧ j266.toInt ≤ 1) → ∀ (H : Heap) (locs : List Loc) (ls : Array Slot), Wd G s A [(qf, .inr (5, [.ref qf_bestPath, .int j201, .int j202, .ref qf_path, .int qf_passing, .int qf_picture, .int qf_behind])), (qf_bestPath, eI G 6 j203), (qf_path, eI G 6 j204), (qs, .inr (4, [.int qs_slides, .int qs_hearers, .int qs_nears, .int qs_lines, .int qs_pass, .int qs_spread, .int qs_lamp, .int qs_behind, .int qs_settingsTold, .ref qs_slideNames, .ref qs_pictures, .ref qs_heats, .ref qs_after, .ref qs_hearerNames, .ref qs_needs, .ref qs_likes, .ref qs_hates, .ref qs_near])), (qs_heats, eI G 6 qs_heats_c), (qs_after, eI G 6 qs_after_c)] H locs → lv_has ls 13 [(8, .int j199), (7, .int j200), (0, .ref qf), (1, .ref qs), (2, .int a1), (3, .int a2), (4, .int a3), (5, .int a4), (6, .int a5)] → W p l e (rmD (3 + 1 * (n + 1)) 0 0) s m args below meth c H locs 0 0 Q (F0 m 51 ls [.int j266]) := by
              intro j266 hJ267_0 H locs ls hw hl
              refine lv_istore (lv' := [(10, .int j266), (8, .int j199), (7, .int j200), (0, .ref qf), (1, .ref qs), (2, .int a1), (3, .int a2), (4, .int a3), (5, .int a4), (6, .int a5)]) C.1 C.2.1 dX6_goOn_51 hl (by decide) rfl (fun ls hl => ?_)
              refine lv_iload_n C.1 C.2.1 dX6_goOn_53 rfl (lv_at hl 6 rfl) ?_
              refine lv_iload C.1 C.2.1 dX6_goOn_54 (lv_at hl 1 rfl) ?_
              refine lv_ishr C.1 C.2.1 dX6_goOn_56 (x_gen (fun v268 => ?_))
              refine lv_iconst (v := 1) C.1 C.2.1 dX6_goOn_57 (by decide) ?_
              refine lv_iand C.1 C.2.1 dX6_goOn_58 (x_genP (fun z : Int32 => 0 ≤ z.toInt ∧ z.toInt ≤ 1) (i_andR 1 rfl (by decide) rfl) (fun v269 hv269 => ?_))
              have J300 : ∀ (j295 : Int32) (j296 : Int32) (j297 : Int32) (j298 : Nat → Int32) (j299 : Nat → Int32), (0 ≤ j295.toInt ∧ j295.toInt ≤ 1) → (0 ≤ j296.toInt ∧ j296.toInt ≤ 6) → ∀ (H : Heap) (locs : List Loc) (ls : Array Slot), Wd G s A [(qf, .inr (5, [.ref qf_bestPath, .int j296, .int j297, .ref qf_path, .int qf_passing, .int qf_picture, .int qf_behind])), (qf_bestPath, eI G 6 j298), (qf_path, eI G 6 j299), (qs, .inr (4, [.int qs_slides, .int qs_hearers, .int qs_nears, .int qs_lines, .int qs_pass, .int qs_spread, .int qs_lamp, .int qs_behind, .int qs_settingsTold, .ref qs_slideNames, .ref qs_pictures, .ref qs_heats, .ref qs_after, .ref qs_hearerNames, .ref qs_needs, .ref qs_likes, .ref qs_hates, .ref qs_near])), (qs_heats, eI G 6 qs_heats_c), (qs_after, eI G 6 qs_after_c)] H locs → lv_has ls 13 [(8, .int j199), (7, .int j295), (0, .ref qf), (1, .ref qs), (2, .int a1), (3, .int a2), (4, .int a3), (5, .int a4), (6, .int a5)] → W p l e (rmD (3 + 1 * (n + 1)) 0 0) s m args below meth c H locs 0 0 Q (F0 m 156 ls []) := by
                intro j295 j296 j297 j298 j299 hJ300_0 hJ300_1 H locs ls hw hl
                obtain ⟨v301, ev301⟩ : ∃ z : Int32, j199 + 1 = z := ⟨_, rfl⟩
                have hv301 : v301.toInt = j199.toInt + 1 := by rw [← ev301]; exact i_add rfl rfl (by omega) (by omega)
                refine lv_iinc (v := v301) (lv' := [(8, .int v301), (7, .int j295), (0, .ref qf), (1, .ref qs), (2, .int a1), (3, .int a2), (4, .int a3), (5, .int a4), (6, .int a5)]) C.1 C.2.1 dX6_goOn_156 hl (k := 0) rfl ev301 (by decide) rfl (fun ls hl => ?_)
                refine lv_goto (tgt := 6) C.1 C.2.1 dX6_goOn_159 (by decide) ?_
                exact ihJ205 v301 j295 j296 j297 j298 j299 (by omega) (by omega) (by omega) (by omega) _ _ _ hw (lv_sub hl [0, 1, 2, 3, 4, 5, 6, 7, 8] rfl)
              refine lv_if_eq (tgt := 156) C.1 C.2.1 dX6_goOn_59 (by decide) (fun c270 => ?_) (fun c270 => ?_)
              · skip
                have c270 : v269.toInt = 0 := i_eqT (X := v269.toInt) (Y := 0) rfl rfl c270
                exact J300 j200 j201 j202 j203 j204  (by omega) (by omega) _ _ _ hw (lv_sub hl [1, 2, 3, 4, 5, 6, 7, 8, 9] rfl)
              · skip
                have c270 : v269.toInt ≠ 0 := i_eqF (X := v269.toInt) (Y := 0) rfl rfl c270
                refine lv_iload C.1 C.2.1 dX6_goOn_62 (lv_at hl 0 rfl) ?_
                refine lv_if_eq (tgt := 70) C.1 C.2.1 dX6_goOn_64 (by decide) (fun c302 => ?_) (fun c302 => ?_)
                · skip
                  have c302 : j266.toInt = 0 := i_eqT (X := j266.toInt) (Y := 0) rfl rfl c302
                  refine lv_iconst (v := 0) C.1 C.2.1 dX6_goOn_70 (by decide) ?_
                  refine lv_istore (lv' := [(7, .int 0), (10, .int j266), (8, .int j199), (0, .ref qf), (1, .ref qs), (2, .int a1), (3, .int a2), (4, .int a3), (5, .int a4), (6, .int a5)]) C.1 C.2.1 dX6_goOn_71 hl (by decide) rfl (fun ls hl => ?_)
                  refine lv_aload_n C.1 C.2.1 dX6_goOn_73 rfl (lv_at hl 3 rfl) ?_
                  refine x_get C hw iwX6 5 rfl 0 rfl 3 (by decide) kw382 rfl dX6_goOn_74 ?_
                  refine lv_iload_n C.1 C.2.1 dX6_goOn_77 rfl (lv_at hl 5 rfl) ?_
                  refine lv_iload C.1 C.2.1 dX6_goOn_78 (lv_at hl 2 rfl) ?_
                  obtain ⟨g303, eg303⟩ : ∃ z, upd j204 (a1.toNatClampNeg) j199 = z := ⟨_, rfl⟩
                  refine x_iast (f' := g303) (w' := [(qf, .inr (5, [.ref qf_bestPath, .int j201, .int j202, .ref qf_path, .int qf_passing, .int qf_picture, .int qf_behind])), (qf_bestPath, eI G 6 j203), (qf_path, eI G 6 g303), (qs, .inr (4, [.int qs_slides, .int qs_hearers, .int qs_nears, .int qs_lines, .int qs_pass, .int qs_spread, .int qs_lamp, .int qs_behind, .int qs_settingsTold, .ref qs_slideNames, .ref qs_pictures, .ref qs_heats, .ref qs_after, .ref qs_hearerNames, .ref qs_needs, .ref qs_likes, .ref qs_hates, .ref qs_near])), (qs_heats, eI G 6 qs_heats_c), (qs_after, eI G 6 qs_after_c)]) C hw 2 rfl (i_in (by omega) (by omega)) eg303 rfl dX6_goOn_80 (fun H locs hw => ?_)
                  refine lv_iload C.1 C.2.1 dX6_goOn_81 (lv_at hl 8 rfl) ?_
                  refine lv_aload_n C.1 C.2.1 dX6_goOn_83 rfl (lv_at hl 4 rfl) ?_
                  refine x_get C hw iwX5 4 rfl 3 rfl 11 (by decide) kw176 rfl dX6_goOn_84 ?_
                  refine lv_iload C.1 C.2.1 dX6_goOn_87 (lv_at hl 2 rfl) ?_
                  refine x_iald (v := (qs_heats_c j199.toNatClampNeg)) C hw 4 rfl (i_in (by omega) (by omega)) rfl dX6_goOn_89 (x_gen (fun v304 => ?_))
                  refine lv_iadd C.1 C.2.1 dX6_goOn_90 (x_gen (fun v305 => ?_))
                  refine lv_istore (lv' := [(11, .int v305), (7, .int 0), (10, .int j266), (8, .int j199), (0, .ref qf), (1, .ref qs), (2, .int a1), (3, .int a2), (4, .int a3), (5, .int a4), (6, .int a5)]) C.1 C.2.1 dX6_goOn_91 hl (by decide) rfl (fun ls hl => ?_)
                  refine lv_iload C.1 C.2.1 dX6_goOn_93 (lv_at hl 0 rfl) ?_
                  refine lv_aload_n C.1 C.2.1 dX6_goOn_95 rfl (lv_at hl 5 rfl) ?_
                  refine x_get C hw iwX5 4 rfl 3 rfl 6 (by decide) kw165 rfl dX6_goOn_96 ?_
                  refine lv_icmp_le (tgt := 114) C.1 C.2.1 dX6_goOn_99 (by decide) (fun c306 => ?_) (fun c306 => ?_)
                  · skip
                    have c306 : v305.toInt ≤ qs_lamp.toInt := i_leT (X := v305.toInt) (Y := qs_lamp.toInt) rfl rfl c306
                    have bc306_v305 := i_bd v305
                    have bc306_qs_lamp := i_bd qs_lamp
                    refine lv_aload_n C.1 C.2.1 dX6_goOn_114 rfl (lv_at hl 4 rfl) ?_
                    refine x_get C hw iwX6 5 rfl 0 rfl 4 (by decide) kw383 rfl dX6_goOn_115 ?_
                    refine lv_iload C.1 C.2.1 dX6_goOn_118 (lv_at hl 3 rfl) ?_
                    refine lv_ishr C.1 C.2.1 dX6_goOn_120 (x_gen (fun v307 => ?_))
                    refine lv_iconst (v := 1) C.1 C.2.1 dX6_goOn_121 (by decide) ?_
                    refine lv_iand C.1 C.2.1 dX6_goOn_122 (x_genP (fun z : Int32 => 0 ≤ z.toInt ∧ z.toInt ≤ 1) (i_andR 1 rfl (by decide) rfl) (fun v308 hv308 => ?_))
                    refine lv_istore (lv' := [(12, .int v308), (11, .int v305), (7, .int 0), (10, .int j266), (8, .int j199), (0, .ref qf), (1, .ref qs), (2, .int a1), (3, .int a2), (4, .int a3), (5, .int a4), (6, .int a5)]) C.1 C.2.1 dX6_goOn_123 hl (by decide) rfl (fun ls hl => ?_)
                    refine lv_aload_n C.1 C.2.1 dX6_goOn_125 rfl (lv_at hl 5 rfl) ?_
                    refine lv_aload_n C.1 C.2.1 dX6_goOn_126 rfl (lv_at hl 6 rfl) ?_
                    refine lv_iload_n C.1 C.2.1 dX6_goOn_127 rfl (lv_at hl 7 rfl) ?_
                    refine lv_iconst (v := 1) C.1 C.2.1 dX6_goOn_128 (by decide) ?_
                    refine lv_iadd C.1 C.2.1 dX6_goOn_129 (x_genP (fun z : Int32 => z.toInt = a1.toInt + 1) (i_add (X := a1.toInt) (Y := 1) rfl rfl (by omega) (by omega)) (fun v309 hv309 => ?_))
                    refine lv_iload_n C.1 C.2.1 dX6_goOn_130 rfl (lv_at hl 8 rfl) ?_
                    refine lv_iconst (v := 1) C.1 C.2.1 dX6_goOn_131 (by decide) ?_
                    refine lv_iload C.1 C.2.1 dX6_goOn_132 (lv_at hl 4 rfl) ?_
                    refine lv_ishl C.1 C.2.1 dX6_goOn_134 (x_genP (fun z : Int32 => 1 ≤ z.toInt ∧ z.toInt ≤ 256) (i_shl1 (by omega) (by omega)) (fun v310 hv310 => ?_))
                    refine lv_iconst (v := (-1)) C.1 C.2.1 dX6_goOn_135 (by decide) ?_
                    refine lv_ixor C.1 C.2.1 dX6_goOn_136 (x_gen (fun v311 => ?_))
                    refine lv_iand C.1 C.2.1 dX6_goOn_137 (x_gen (fun v312 => ?_))
                    refine lv_iload C.1 C.2.1 dX6_goOn_138 (lv_at hl 9 rfl) ?_
                    refine lv_iload C.1 C.2.1 dX6_goOn_140 (lv_at hl 0 rfl) ?_
                    refine lv_iload C.1 C.2.1 dX6_goOn_142 (lv_at hl 4 rfl) ?_
                    refine lv_ishl C.1 C.2.1 dX6_goOn_144 (x_gen (fun v313 => ?_))
                    refine lv_ior C.1 C.2.1 dX6_goOn_145 (x_gen (fun v314 => ?_))
                    refine lv_iload C.1 C.2.1 dX6_goOn_146 (lv_at hl 1 rfl) ?_
                    refine lv_iload C.1 C.2.1 dX6_goOn_148 (lv_at hl 11 rfl) ?_
                    refine lv_iload C.1 C.2.1 dX6_goOn_150 (lv_at hl 0 rfl) ?_
                    refine lv_iadd C.1 C.2.1 dX6_goOn_152 (x_gen (fun v315 => ?_))
                    refine x_callvV (As := [.ref qs, .int v309, .int v312, .int v314, .int v305, .int v315]) (rest := []) (wr := []) C hw (ih qf qs v309 v312 v314 v305 v315 qf_bestPath j201 j202 qf_path qf_passing qf_picture qf_behind j203 g303 qs_slides qs_hearers qs_nears qs_lines qs_pass qs_spread qs_lamp qs_behind qs_settingsTold qs_slideNames qs_pictures qs_heats qs_after qs_hearerNames qs_needs qs_likes qs_hates qs_near qs_heats_c qs_after_c (by omega) (by omega) (by omega) (by omega) hf_qs_after_c (by omega)) mwX6_goOn kw829 [0, 1, 2, 3, 4, 5] [] rfl rfl rfl rfl (by decide) 0 rfl rfl rfl rfl hl.1 rfl (Nat.le_of_ble_eq_true rfl) ⟨(by dsimp only [rmD]; omega), (by dsimp only [rmD]; omega)⟩ ⟨(Nat.le_of_ble_eq_true rfl), (Nat.le_of_ble_eq_true rfl)⟩ dX6_goOn_153 (fun  u9 H locs hp9 hw => ?_)
                    obtain ⟨x316, x317, x318, x319, rfl, hf320⟩ := hp9
                    have hw : Wd G s A [(qf, .inr (5, [.ref qf_bestPath, .int x316, .int x317, .ref qf_path, .int qf_passing, .int qf_picture, .int qf_behind])), (qf_bestPath, eI G 6 x318), (qf_path, eI G 6 x319), (qs, .inr (4, [.int qs_slides, .int qs_hearers, .int qs_nears, .int qs_lines, .int qs_pass, .int qs_spread, .int qs_lamp, .int qs_behind, .int qs_settingsTold, .ref qs_slideNames, .ref qs_pictures, .ref qs_heats, .ref qs_after, .ref qs_hearerNames, .ref qs_needs, .ref qs_likes, .ref qs_hates, .ref qs_near])), (qs_heats, eI G 6 qs_heats_c), (qs_after, eI G 6 qs_after_c)] H _ := hw
                    exact J300 0 x316 x317 x318 x319  (by decide) (by omega) _ _ _ hw (lv_sub hl [4, 2, 5, 6, 7, 8, 9, 10, 11] rfl)
                  · skip
                    have c306 : qs_lamp.toInt < v305.toInt := i_leF (X := v305.toInt) (Y := qs_lamp.toInt) rfl rfl c306
                    have bc306_v305 := i_bd v305
                    have bc306_qs_lamp := i_bd qs_lamp
                    refine lv_aload_n C.1 C.2.1 dX6_goOn_102 rfl (lv_at hl 4 rfl) ?_
                    refine lv_iload_n C.1 C.2.1 dX6_goOn_103 rfl (lv_at hl 6 rfl) ?_
                    refine lv_iconst (v := 1) C.1 C.2.1 dX6_goOn_104 (by decide) ?_
                    refine lv_iadd C.1 C.2.1 dX6_goOn_105 (x_genP (fun z : Int32 => z.toInt = a1.toInt + 1) (i_add (X := a1.toInt) (Y := 1) rfl rfl (by omega) (by omega)) (fun v321 hv321 => ?_))
                    refine lv_iload C.1 C.2.1 dX6_goOn_106 (lv_at hl 10 rfl) ?_
                    refine x_callvV (As := [.int v321, .int a5]) (rest := []) (wr := [(qs, .inr (4, [.int qs_slides, .int qs_hearers, .int qs_nears, .int qs_lines, .int qs_pass, .int qs_spread, .int qs_lamp, .int qs_behind, .int qs_settingsTold, .ref qs_slideNames, .ref qs_pictures, .ref qs_heats, .ref qs_after, .ref qs_hearerNames, .ref qs_needs, .ref qs_likes, .ref qs_hates, .ref qs_near])), (qs_heats, eI G 6 qs_heats_c), (qs_after, eI G 6 qs_after_c)]) C hw (s_X6_keepIfBetter qf v321 a5 qf_bestPath j201 j202 qf_path qf_passing qf_picture qf_behind j203 g303 (by omega) (by omega)) mwX6_keepIfBetter kw824 [0, 1, 2] [3, 4, 5] rfl rfl rfl rfl (by decide) 0 rfl rfl rfl rfl hl.1 rfl (Nat.le_of_ble_eq_true rfl) ⟨(by dsimp only [rmD]; omega), (by dsimp only [rmD]; omega)⟩ ⟨(Nat.le_of_ble_eq_true rfl), (Nat.le_of_ble_eq_true rfl)⟩ dX6_goOn_108 (fun  u9 H locs hp9 hw => ?_)
                    obtain ⟨x322, x323, x324, rfl, hf325⟩ := hp9
                    have hw : Wd G s A [(qs, .inr (4, [.int qs_slides, .int qs_hearers, .int qs_nears, .int qs_lines, .int qs_pass, .int qs_spread, .int qs_lamp, .int qs_behind, .int qs_settingsTold, .ref qs_slideNames, .ref qs_pictures, .ref qs_heats, .ref qs_after, .ref qs_hearerNames, .ref qs_needs, .ref qs_likes, .ref qs_hates, .ref qs_near])), (qs_heats, eI G 6 qs_heats_c), (qs_after, eI G 6 qs_after_c), (qf, .inr (5, [.ref qf_bestPath, .int x322, .int x323, .ref qf_path, .int qf_passing, .int qf_picture, .int qf_behind])), (qf_bestPath, eI G 6 x324), (qf_path, eI G 6 g303)] H _ := hw
                    refine lv_goto (tgt := 156) C.1 C.2.1 dX6_goOn_111 (by decide) ?_
                    have hw := hw.sub (w' := [(qf, .inr (5, [.ref qf_bestPath, .int x322, .int x323, .ref qf_path, .int qf_passing, .int qf_picture, .int qf_behind])), (qf_bestPath, eI G 6 x324), (qf_path, eI G 6 g303), (qs, .inr (4, [.int qs_slides, .int qs_hearers, .int qs_nears, .int qs_lines, .int qs_pass, .int qs_spread, .int qs_lamp, .int qs_behind, .int qs_settingsTold, .ref qs_slideNames, .ref qs_pictures, .ref qs_heats, .ref qs_after, .ref qs_hearerNames, .ref qs_needs, .ref qs_likes, .ref qs_hates, .ref qs_near])), (qs_heats, eI G 6 qs_heats_c), (qs_after, eI G 6 qs_after_c)]) [3, 4, 5, 0, 1, 2] rfl rfl
                    exact J300 0 x322 x323 x324 g303  (by decide) (by omega) _ _ _ hw (lv_sub hl [3, 1, 4, 5, 6, 7, 8, 9, 10] rfl)
                · skip
                  have c302 : j266.toInt ≠ 0 := i_eqF (X := j266.toInt) (Y := 0) rfl rfl c302
                  refine lv_goto (tgt := 156) C.1 C.2.1 dX6_goOn_67 (by decide) ?_
                  exact J300 j200 j201 j202 j203 j204  (by omega) (by omega) _ _ _ hw (lv_sub hl [1, 2, 3, 4, 5, 6, 7, 8, 9] rfl)
            refine lv_icmp_eq (tgt := 50) C.1 C.2.1 dX6_goOn_33 (by decide) (fun c262 => ?_) (fun c262 => ?_)
            · skip
              have c262 : v261.toInt = (-1) := i_eqT (X := v261.toInt) (Y := (-1)) rfl rfl c262
              refine lv_iconst (v := 0) C.1 C.2.1 dX6_goOn_50 (by decide) ?_
              exact J267 0  (by decide) _ _ _ hw (lv_sub hl [1, 2, 3, 4, 5, 6, 7, 8, 9] rfl)
            · skip
              have c262 : v261.toInt ≠ (-1) := i_eqF (X := v261.toInt) (Y := (-1)) rfl rfl c262
              refine lv_iload C.1 C.2.1 dX6_goOn_36 (lv_at hl 7 rfl) ?_
              refine lv_iload C.1 C.2.1 dX6_goOn_38 (lv_at hl 0 rfl) ?_
              refine lv_ishr C.1 C.2.1 dX6_goOn_40 (x_gen (fun v326 => ?_))
              refine lv_iconst (v := 1) C.1 C.2.1 dX6_goOn_41 (by decide) ?_
              refine lv_iand C.1 C.2.1 dX6_goOn_42 (x_genP (fun z : Int32 => 0 ≤ z.toInt ∧ z.toInt ≤ 1) (i_andR 1 rfl (by decide) rfl) (fun v327 hv327 => ?_))
              refine lv_if_ne (tgt := 50) C.1 C.2.1 dX6_goOn_43 (by decide) (fun c328 => ?_) (fun c328 => ?_)
              · skip
                have c328 : v327.toInt ≠ 0 := i_eqF (X := v327.toInt) (Y := 0) rfl rfl c328
                refine lv_iconst (v := 0) C.1 C.2.1 dX6_goOn_50 (by decide) ?_
                exact J267 0  (by decide) _ _ _ hw (lv_sub hl [1, 2, 3, 4, 5, 6, 7, 8, 9] rfl)
              · skip
                have c328 : v327.toInt = 0 := i_eqT (X := v327.toInt) (Y := 0) rfl rfl c328
                refine lv_iconst (v := 1) C.1 C.2.1 dX6_goOn_46 (by decide) ?_
                refine lv_goto (tgt := 51) C.1 C.2.1 dX6_goOn_47 (by decide) ?_
                exact J267 1  (by decide) _ _ _ hw (lv_sub hl [1, 2, 3, 4, 5, 6, 7, 8, 9] rfl)
    exact loopJ205 _ 0 1 qf_bestSize qf_bestPassed qf_bestPath_c qf_path_c (Nat.lt_succ_self _) (by decide) (by decide) (by omega) _ _ _ hw (lv_sub hl [0, 1, 2, 3, 4, 5, 6, 7, 8] rfl)
theorem s_X6_goOn {l : Launch} {G : Gc} (qf : Nat) (qs : Nat) (a1 : Int32) (a2 : Int32) (a3 : Int32) (a4 : Int32) (a5 : Int32) (qf_bestPath : Nat) (qf_bestSize : Int32) (qf_bestPassed : Int32) (qf_path : Nat) (qf_passing : Int32) (qf_picture : Int32) (qf_behind : Int32) (qf_bestPath_c : Nat → Int32) (qf_path_c : Nat → Int32) (qs_slides : Int32) (qs_hearers : Int32) (qs_nears : Int32) (qs_lines : Int32) (qs_pass : Int32) (qs_spread : Int32) (qs_lamp : Int32) (qs_behind : Int32) (qs_settingsTold : Int32) (qs_slideNames : Nat) (qs_pictures : Nat) (qs_heats : Nat) (qs_after : Nat) (qs_hearerNames : Nat) (qs_needs : Nat) (qs_likes : Nat) (qs_hates : Nat) (qs_near : Nat) (qs_heats_c : Nat → Int32) (qs_after_c : Nat → Int32) (hi_a1 : 0 ≤ a1.toInt ∧ a1.toInt ≤ 6) (hi_qf_bestSize : 0 ≤ qf_bestSize.toInt ∧ qf_bestSize.toInt ≤ 6) (hi_qs_slides : 0 ≤ qs_slides.toInt ∧ qs_slides.toInt ≤ 6) (hi_qs_hearers : 0 ≤ qs_hearers.toInt ∧ qs_hearers.toInt ≤ 8) (hf_qs_after_c : inA 6 (-1) 5 qs_after_c) : Cv l yX6_goOn cX6_goOn 13 10 0 0 G [.ref qf, .ref qs, .int a1, .int a2, .int a3, .int a4, .int a5] [(qf, .inr (5, [.ref qf_bestPath, .int qf_bestSize, .int qf_bestPassed, .ref qf_path, .int qf_passing, .int qf_picture, .int qf_behind])), (qf_bestPath, eI G 6 qf_bestPath_c), (qf_path, eI G 6 qf_path_c), (qs, .inr (4, [.int qs_slides, .int qs_hearers, .int qs_nears, .int qs_lines, .int qs_pass, .int qs_spread, .int qs_lamp, .int qs_behind, .int qs_settingsTold, .ref qs_slideNames, .ref qs_pictures, .ref qs_heats, .ref qs_after, .ref qs_hearerNames, .ref qs_needs, .ref qs_likes, .ref qs_hates, .ref qs_near])), (qs_heats, eI G 6 qs_heats_c), (qs_after, eI G 6 qs_after_c)] (fun (u9 : va_W) => ∃ (x0_qf_bestSize : Int32) (x1_qf_bestPassed : Int32) (x2_qf_bestPath_c : Nat → Int32) (x3_qf_path_c : Nat → Int32), u9 = [(qf, .inr (5, [.ref qf_bestPath, .int x0_qf_bestSize, .int x1_qf_bestPassed, .ref qf_path, .int qf_passing, .int qf_picture, .int qf_behind])), (qf_bestPath, eI G 6 x2_qf_bestPath_c), (qf_path, eI G 6 x3_qf_path_c), (qs, .inr (4, [.int qs_slides, .int qs_hearers, .int qs_nears, .int qs_lines, .int qs_pass, .int qs_spread, .int qs_lamp, .int qs_behind, .int qs_settingsTold, .ref qs_slideNames, .ref qs_pictures, .ref qs_heats, .ref qs_after, .ref qs_hearerNames, .ref qs_needs, .ref qs_likes, .ref qs_hates, .ref qs_near])), (qs_heats, eI G 6 qs_heats_c), (qs_after, eI G 6 qs_after_c)] ∧ (0 ≤ x0_qf_bestSize.toInt ∧ x0_qf_bestSize.toInt ≤ 6)) := s_X6_goOn_n 7 qf qs a1 a2 a3 a4 a5 qf_bestPath qf_bestSize qf_bestPassed qf_path qf_passing qf_picture qf_behind qf_bestPath_c qf_path_c qs_slides qs_hearers qs_nears qs_lines qs_pass qs_spread qs_lamp qs_behind qs_settingsTold qs_slideNames qs_pictures qs_heats qs_after qs_hearerNames qs_needs qs_likes qs_hates qs_near qs_heats_c qs_after_c hi_a1 hi_qf_bestSize hi_qs_slides hi_qs_hearers hf_qs_after_c (by omega)
theorem dX6_findOrder_0 : decode cX6_findOrder 0 = .ok (.aload_n 0, 1) := by decide +kernel
theorem dX6_findOrder_1 : decode cX6_findOrder 1 = .ok (.iconst 0, 1) := by decide +kernel
theorem dX6_findOrder_2 : decode cX6_findOrder 2 = .ok (.putfield 18, 3) := by decide +kernel
theorem dX6_findOrder_5 : decode cX6_findOrder 5 = .ok (.iconst 0, 1) := by decide +kernel
theorem dX6_findOrder_6 : decode cX6_findOrder 6 = .ok (.istore_n 3, 1) := by decide +kernel
theorem dX6_findOrder_7 : decode cX6_findOrder 7 = .ok (.iconst 0, 1) := by decide +kernel
theorem dX6_findOrder_8 : decode cX6_findOrder 8 = .ok (.istore 4, 2) := by decide +kernel
theorem dX6_findOrder_10 : decode cX6_findOrder 10 = .ok (.iload 4, 2) := by decide +kernel
theorem dX6_findOrder_12 : decode cX6_findOrder 12 = .ok (.aload_n 1, 1) := by decide +kernel
theorem dX6_findOrder_13 : decode cX6_findOrder 13 = .ok (.getfield 22, 3) := by decide +kernel
theorem dX6_findOrder_16 : decode cX6_findOrder 16 = .ok (.if_icmp .ge 68, 3) := by decide +kernel
theorem dX6_findOrder_19 : decode cX6_findOrder 19 = .ok (.aload_n 2, 1) := by decide +kernel
theorem dX6_findOrder_20 : decode cX6_findOrder 20 = .ok (.getfield 27, 3) := by decide +kernel
theorem dX6_findOrder_23 : decode cX6_findOrder 23 = .ok (.aload_n 2, 1) := by decide +kernel
theorem dX6_findOrder_24 : decode cX6_findOrder 24 = .ok (.getfield 32, 3) := by decide +kernel
theorem dX6_findOrder_27 : decode cX6_findOrder 27 = .ok (.ior, 1) := by decide +kernel
theorem dX6_findOrder_28 : decode cX6_findOrder 28 = .ok (.iload 4, 2) := by decide +kernel
theorem dX6_findOrder_30 : decode cX6_findOrder 30 = .ok (.ishr, 1) := by decide +kernel
theorem dX6_findOrder_31 : decode cX6_findOrder 31 = .ok (.iconst 1, 1) := by decide +kernel
theorem dX6_findOrder_32 : decode cX6_findOrder 32 = .ok (.iand, 1) := by decide +kernel
theorem dX6_findOrder_33 : decode cX6_findOrder 33 = .ok (.ifCond .ne 10, 3) := by decide +kernel
theorem dX6_findOrder_36 : decode cX6_findOrder 36 = .ok (.iload_n 3, 1) := by decide +kernel
theorem dX6_findOrder_37 : decode cX6_findOrder 37 = .ok (.iconst 1, 1) := by decide +kernel
theorem dX6_findOrder_38 : decode cX6_findOrder 38 = .ok (.iload 4, 2) := by decide +kernel
theorem dX6_findOrder_40 : decode cX6_findOrder 40 = .ok (.ishl, 1) := by decide +kernel
theorem dX6_findOrder_41 : decode cX6_findOrder 41 = .ok (.ior, 1) := by decide +kernel
theorem dX6_findOrder_42 : decode cX6_findOrder 42 = .ok (.istore_n 3, 1) := by decide +kernel
theorem dX6_findOrder_43 : decode cX6_findOrder 43 = .ok (.aload_n 1, 1) := by decide +kernel
theorem dX6_findOrder_44 : decode cX6_findOrder 44 = .ok (.aload_n 1, 1) := by decide +kernel
theorem dX6_findOrder_45 : decode cX6_findOrder 45 = .ok (.aload_n 2, 1) := by decide +kernel
theorem dX6_findOrder_46 : decode cX6_findOrder 46 = .ok (.getfield 35, 3) := by decide +kernel
theorem dX6_findOrder_49 : decode cX6_findOrder 49 = .ok (.iload 4, 2) := by decide +kernel
theorem dX6_findOrder_51 : decode cX6_findOrder 51 = .ok (.iaload, 1) := by decide +kernel
theorem dX6_findOrder_52 : decode cX6_findOrder 52 = .ok (.aload_n 2, 1) := by decide +kernel
theorem dX6_findOrder_53 : decode cX6_findOrder 53 = .ok (.getfield 38, 3) := by decide +kernel
theorem dX6_findOrder_56 : decode cX6_findOrder 56 = .ok (.invokevirtual 41, 3) := by decide +kernel
theorem dX6_findOrder_59 : decode cX6_findOrder 59 = .ok (.invokevirtual 45, 3) := by decide +kernel
theorem dX6_findOrder_62 : decode cX6_findOrder 62 = .ok (.ifCond .eq 16, 3) := by decide +kernel
theorem dX6_findOrder_65 : decode cX6_findOrder 65 = .ok (.aload_n 0, 1) := by decide +kernel
theorem dX6_findOrder_66 : decode cX6_findOrder 66 = .ok (.dup, 1) := by decide +kernel
theorem dX6_findOrder_67 : decode cX6_findOrder 67 = .ok (.getfield 18, 3) := by decide +kernel
theorem dX6_findOrder_70 : decode cX6_findOrder 70 = .ok (.iconst 1, 1) := by decide +kernel
theorem dX6_findOrder_71 : decode cX6_findOrder 71 = .ok (.iload 4, 2) := by decide +kernel
theorem dX6_findOrder_73 : decode cX6_findOrder 73 = .ok (.ishl, 1) := by decide +kernel
theorem dX6_findOrder_74 : decode cX6_findOrder 74 = .ok (.ior, 1) := by decide +kernel
theorem dX6_findOrder_75 : decode cX6_findOrder 75 = .ok (.putfield 18, 3) := by decide +kernel
theorem dX6_findOrder_78 : decode cX6_findOrder 78 = .ok (.iinc 4 1, 3) := by decide +kernel
theorem dX6_findOrder_81 : decode cX6_findOrder 81 = .ok (.goto (-71), 3) := by decide +kernel
theorem dX6_findOrder_84 : decode cX6_findOrder 84 = .ok (.aload_n 0, 1) := by decide +kernel
theorem dX6_findOrder_85 : decode cX6_findOrder 85 = .ok (.iconst (-1), 1) := by decide +kernel
theorem dX6_findOrder_86 : decode cX6_findOrder 86 = .ok (.putfield 49, 3) := by decide +kernel
theorem dX6_findOrder_89 : decode cX6_findOrder 89 = .ok (.aload_n 2, 1) := by decide +kernel
theorem dX6_findOrder_90 : decode cX6_findOrder 90 = .ok (.getfield 52, 3) := by decide +kernel
theorem dX6_findOrder_93 : decode cX6_findOrder 93 = .ok (.ifCond .eq 12, 3) := by decide +kernel
theorem dX6_findOrder_105 : decode cX6_findOrder 105 = .ok (.aload_n 0, 1) := by decide +kernel
theorem dX6_findOrder_106 : decode cX6_findOrder 106 = .ok (.aload_n 1, 1) := by decide +kernel
theorem dX6_findOrder_107 : decode cX6_findOrder 107 = .ok (.iconst 0, 1) := by decide +kernel
theorem dX6_findOrder_108 : decode cX6_findOrder 108 = .ok (.iload_n 3, 1) := by decide +kernel
theorem dX6_findOrder_109 : decode cX6_findOrder 109 = .ok (.aload_n 2, 1) := by decide +kernel
theorem dX6_findOrder_110 : decode cX6_findOrder 110 = .ok (.getfield 27, 3) := by decide +kernel
theorem dX6_findOrder_113 : decode cX6_findOrder 113 = .ok (.aload_n 2, 1) := by decide +kernel
theorem dX6_findOrder_114 : decode cX6_findOrder 114 = .ok (.getfield 60, 3) := by decide +kernel
theorem dX6_findOrder_117 : decode cX6_findOrder 117 = .ok (.iconst 0, 1) := by decide +kernel
theorem dX6_findOrder_118 : decode cX6_findOrder 118 = .ok (.invokevirtual 63, 3) := by decide +kernel
theorem dX6_findOrder_121 : decode cX6_findOrder 121 = .ok (.aload_n 0, 1) := by decide +kernel
theorem dX6_findOrder_122 : decode cX6_findOrder 122 = .ok (.getfield 49, 3) := by decide +kernel
theorem dX6_findOrder_125 : decode cX6_findOrder 125 = .ok (.ireturn, 1) := by decide +kernel
theorem dX6_findOrder_96 : decode cX6_findOrder 96 = .ok (.aload_n 0, 1) := by decide +kernel
theorem dX6_findOrder_97 : decode cX6_findOrder 97 = .ok (.iconst 0, 1) := by decide +kernel
theorem dX6_findOrder_98 : decode cX6_findOrder 98 = .ok (.iconst 0, 1) := by decide +kernel
theorem dX6_findOrder_99 : decode cX6_findOrder 99 = .ok (.invokevirtual 56, 3) := by decide +kernel
theorem dX6_findOrder_102 : decode cX6_findOrder 102 = .ok (.goto 19, 3) := by decide +kernel
set_option maxHeartbeats 4000000 in
set_option maxRecDepth 100000 in
theorem s_X6_findOrder {l : Launch} {G : Gc} (qf : Nat) (qs : Nat) (qa : Nat) (qf_bestPath : Nat) (qf_bestSize : Int32) (qf_bestPassed : Int32) (qf_path : Nat) (qf_passing : Int32) (qf_picture : Int32) (qf_behind : Int32) (qf_bestPath_c : Nat → Int32) (qf_path_c : Nat → Int32) (qs_slides : Int32) (qs_hearers : Int32) (qs_nears : Int32) (qs_lines : Int32) (qs_pass : Int32) (qs_spread : Int32) (qs_lamp : Int32) (qs_behind : Int32) (qs_settingsTold : Int32) (qs_slideNames : Nat) (qs_pictures : Nat) (qs_heats : Nat) (qs_after : Nat) (qs_hearerNames : Nat) (qs_needs : Nat) (qs_likes : Nat) (qs_hates : Nat) (qs_near : Nat) (qs_heats_c : Nat → Int32) (qs_after_c : Nat → Int32) (qs_needs_c : Nat → Int32) (qs_likes_c : Nat → Int32) (qs_hates_c : Nat → Int32) (qs_near_c : Nat → Int32) (qa_hour : Int32) (qa_heat : Int32) (qa_black : Int32) (qa_so : Int32) (qa_cracked : Int32) (qa_behind : Int32) (qa_allSighs : Int32) (qa_seed : Int32) (qa_pictures : Nat) (qa_shown : Nat) (qa_sighed : Nat) (qa_pictures_c : Nat → Int32) (hi_qf_bestSize : 0 ≤ qf_bestSize.toInt ∧ qf_bestSize.toInt ≤ 6) (hi_qs_slides : 0 ≤ qs_slides.toInt ∧ qs_slides.toInt ≤ 6) (hi_qs_hearers : 0 ≤ qs_hearers.toInt ∧ qs_hearers.toInt ≤ 8) (hf_qs_after_c : inA 6 (-1) 5 qs_after_c) (hi_qa_black : 0 ≤ qa_black.toInt ∧ qa_black.toInt ≤ 1) : Ci l yX6_findOrder cX6_findOrder 5 (some .int) 11 0 0 G [.ref qf, .ref qs, .ref qa] [(qf, .inr (5, [.ref qf_bestPath, .int qf_bestSize, .int qf_bestPassed, .ref qf_path, .int qf_passing, .int qf_picture, .int qf_behind])), (qf_bestPath, eI G 6 qf_bestPath_c), (qf_path, eI G 6 qf_path_c), (qs, .inr (4, [.int qs_slides, .int qs_hearers, .int qs_nears, .int qs_lines, .int qs_pass, .int qs_spread, .int qs_lamp, .int qs_behind, .int qs_settingsTold, .ref qs_slideNames, .ref qs_pictures, .ref qs_heats, .ref qs_after, .ref qs_hearerNames, .ref qs_needs, .ref qs_likes, .ref qs_hates, .ref qs_near])), (qs_heats, eI G 6 qs_heats_c), (qs_after, eI G 6 qs_after_c), (qs_needs, eI G 8 qs_needs_c), (qs_likes, eI G 8 qs_likes_c), (qs_hates, eI G 8 qs_hates_c), (qs_near, eI G 8 qs_near_c), (qa, .inr (7, [.int qa_hour, .int qa_heat, .int qa_black, .int qa_so, .int qa_cracked, .int qa_behind, .int qa_allSighs, .int qa_seed, .ref qa_pictures, .ref qa_shown, .ref qa_sighed])), (qa_pictures, eI G 6 qa_pictures_c)] (fun (r9 : Int32) (u9 : va_W) => ∃ (x0_qf_bestSize : Int32) (x1_qf_bestPassed : Int32) (x2_qf_passing : Int32) (x3_qf_bestPath_c : Nat → Int32) (x4_qf_path_c : Nat → Int32) (r_x : Int32), r9 = r_x ∧ u9 = [(qf, .inr (5, [.ref qf_bestPath, .int x0_qf_bestSize, .int x1_qf_bestPassed, .ref qf_path, .int x2_qf_passing, .int qf_picture, .int qf_behind])), (qf_bestPath, eI G 6 x3_qf_bestPath_c), (qf_path, eI G 6 x4_qf_path_c), (qs, .inr (4, [.int qs_slides, .int qs_hearers, .int qs_nears, .int qs_lines, .int qs_pass, .int qs_spread, .int qs_lamp, .int qs_behind, .int qs_settingsTold, .ref qs_slideNames, .ref qs_pictures, .ref qs_heats, .ref qs_after, .ref qs_hearerNames, .ref qs_needs, .ref qs_likes, .ref qs_hates, .ref qs_near])), (qs_heats, eI G 6 qs_heats_c), (qs_after, eI G 6 qs_after_c), (qs_needs, eI G 8 qs_needs_c), (qs_likes, eI G 8 qs_likes_c), (qs_hates, eI G 8 qs_hates_c), (qs_near, eI G 8 qs_near_c), (qa, .inr (7, [.int qa_hour, .int qa_heat, .int qa_black, .int qa_so, .int qa_cracked, .int qa_behind, .int qa_allSighs, .int qa_seed, .ref qa_pictures, .ref qa_shown, .ref qa_sighed])), (qa_pictures, eI G 6 qa_pictures_c)] ∧ (0 ≤ x0_qf_bestSize.toInt ∧ x0_qf_bestSize.toInt ≤ 6)) := by
  refine Ci.ofQ (by decide) (Nat.le_of_ble_eq_true rfl) ?_
  intro p e s m below meth c ls A args Q hQ B hw hl
  have C : CallFix p m c cX6_findOrder 5 s args gw "LanternState$Search" := B.1
  have hl : lv_has ls 5 [(0, .ref qf), (1, .ref qs), (2, .ref qa)] := hl
  refine lv_aload_n C.1 C.2.1 dX6_findOrder_0 rfl (lv_at hl 0 rfl) ?_
  refine lv_iconst (v := 0) C.1 C.2.1 dX6_findOrder_1 (by decide) ?_
  refine x_put (w' := [(qf, .inr (5, [.ref qf_bestPath, .int qf_bestSize, .int qf_bestPassed, .ref qf_path, .int 0, .int qf_picture, .int qf_behind])), (qf_bestPath, eI G 6 qf_bestPath_c), (qf_path, eI G 6 qf_path_c), (qs, .inr (4, [.int qs_slides, .int qs_hearers, .int qs_nears, .int qs_lines, .int qs_pass, .int qs_spread, .int qs_lamp, .int qs_behind, .int qs_settingsTold, .ref qs_slideNames, .ref qs_pictures, .ref qs_heats, .ref qs_after, .ref qs_hearerNames, .ref qs_needs, .ref qs_likes, .ref qs_hates, .ref qs_near])), (qs_heats, eI G 6 qs_heats_c), (qs_after, eI G 6 qs_after_c), (qs_needs, eI G 8 qs_needs_c), (qs_likes, eI G 8 qs_likes_c), (qs_hates, eI G 8 qs_hates_c), (qs_near, eI G 8 qs_near_c), (qa, .inr (7, [.int qa_hour, .int qa_heat, .int qa_black, .int qa_so, .int qa_cracked, .int qa_behind, .int qa_allSighs, .int qa_seed, .ref qa_pictures, .ref qa_shown, .ref qa_sighed])), (qa_pictures, eI G 6 qa_pictures_c)]) C hw iwX6 tyX6_ok nmX6 5 rfl 0 rfl 4 (by decide) kw383 rfl rfl rfl (Nat.le_of_ble_eq_true rfl) rfl dX6_findOrder_2 (fun H locs hw => ?_)
  refine lv_iconst (v := 0) C.1 C.2.1 dX6_findOrder_5 (by decide) ?_
  refine lv_istore_n (lv' := [(3, .int 0), (0, .ref qf), (1, .ref qs), (2, .ref qa)]) C.1 C.2.1 dX6_findOrder_6 rfl hl (by decide) rfl (fun ls hl => ?_)
  refine lv_iconst (v := 0) C.1 C.2.1 dX6_findOrder_7 (by decide) ?_
  refine lv_istore (lv' := [(4, .int 0), (3, .int 0), (0, .ref qf), (1, .ref qs), (2, .ref qa)]) C.1 C.2.1 dX6_findOrder_8 hl (by decide) rfl (fun ls hl => ?_)
  have loopJ88 : ∀ (n9 : Nat) (j85 : Int32) (j86 : Int32) (j87 : Int32), (2147483647 - j85.toInt).toNat < n9 → (0 ≤ j85.toInt ∧ j85.toInt ≤ 6) → ∀ (H : Heap) (locs : List Loc) (ls : Array Slot), Wd G s A [(qf, .inr (5, [.ref qf_bestPath, .int qf_bestSize, .int qf_bestPassed, .ref qf_path, .int j87, .int qf_picture, .int qf_behind])), (qf_bestPath, eI G 6 qf_bestPath_c), (qf_path, eI G 6 qf_path_c), (qs, .inr (4, [.int qs_slides, .int qs_hearers, .int qs_nears, .int qs_lines, .int qs_pass, .int qs_spread, .int qs_lamp, .int qs_behind, .int qs_settingsTold, .ref qs_slideNames, .ref qs_pictures, .ref qs_heats, .ref qs_after, .ref qs_hearerNames, .ref qs_needs, .ref qs_likes, .ref qs_hates, .ref qs_near])), (qs_heats, eI G 6 qs_heats_c), (qs_after, eI G 6 qs_after_c), (qs_needs, eI G 8 qs_needs_c), (qs_likes, eI G 8 qs_likes_c), (qs_hates, eI G 8 qs_hates_c), (qs_near, eI G 8 qs_near_c), (qa, .inr (7, [.int qa_hour, .int qa_heat, .int qa_black, .int qa_so, .int qa_cracked, .int qa_behind, .int qa_allSighs, .int qa_seed, .ref qa_pictures, .ref qa_shown, .ref qa_sighed])), (qa_pictures, eI G 6 qa_pictures_c)] H locs → lv_has ls 5 [(4, .int j85), (3, .int j86), (0, .ref qf), (1, .ref qs), (2, .ref qa)] → W p l e (rmD 11 0 0) s m args below meth c H locs 0 0 Q (F0 m 10 ls []) := by
    intro n9
    induction n9 with
    | zero => intro j85 j86 j87 h9; exact absurd h9 (Nat.not_lt_zero _)
    | succ n9 ihJ88 =>
      intro j85 j86 j87 h9J88 hJ88_0 H locs ls hw hl
      have hbj85 := i_bd j85
      refine lv_iload C.1 C.2.1 dX6_findOrder_10 (lv_at hl 0 rfl) ?_
      refine lv_aload_n C.1 C.2.1 dX6_findOrder_12 rfl (lv_at hl 3 rfl) ?_
      refine x_get C hw iwX5 4 rfl 3 rfl 0 (by decide) kw148 rfl dX6_findOrder_13 ?_
      refine lv_icmp_ge (tgt := 84) C.1 C.2.1 dX6_findOrder_16 (by decide) (fun c107 => ?_) (fun c107 => ?_)
      · skip
        have c107 : qs_slides.toInt ≤ j85.toInt := i_leT (X := qs_slides.toInt) (Y := j85.toInt) rfl rfl c107
        refine lv_aload_n C.1 C.2.1 dX6_findOrder_84 rfl (lv_at hl 2 rfl) ?_
        refine lv_iconst (v := (-1)) C.1 C.2.1 dX6_findOrder_85 (by decide) ?_
        refine x_put (w' := [(qf, .inr (5, [.ref qf_bestPath, .int qf_bestSize, .int (-1), .ref qf_path, .int j87, .int qf_picture, .int qf_behind])), (qf_bestPath, eI G 6 qf_bestPath_c), (qf_path, eI G 6 qf_path_c), (qs, .inr (4, [.int qs_slides, .int qs_hearers, .int qs_nears, .int qs_lines, .int qs_pass, .int qs_spread, .int qs_lamp, .int qs_behind, .int qs_settingsTold, .ref qs_slideNames, .ref qs_pictures, .ref qs_heats, .ref qs_after, .ref qs_hearerNames, .ref qs_needs, .ref qs_likes, .ref qs_hates, .ref qs_near])), (qs_heats, eI G 6 qs_heats_c), (qs_after, eI G 6 qs_after_c), (qs_needs, eI G 8 qs_needs_c), (qs_likes, eI G 8 qs_likes_c), (qs_hates, eI G 8 qs_hates_c), (qs_near, eI G 8 qs_near_c), (qa, .inr (7, [.int qa_hour, .int qa_heat, .int qa_black, .int qa_so, .int qa_cracked, .int qa_behind, .int qa_allSighs, .int qa_seed, .ref qa_pictures, .ref qa_shown, .ref qa_sighed])), (qa_pictures, eI G 6 qa_pictures_c)]) C hw iwX6 tyX6_ok nmX6 5 rfl 0 rfl 2 (by decide) kw381 rfl rfl rfl (Nat.le_of_ble_eq_true rfl) rfl dX6_findOrder_86 (fun H locs hw => ?_)
        refine lv_aload_n C.1 C.2.1 dX6_findOrder_89 rfl (lv_at hl 4 rfl) ?_
        refine x_get C hw iwX8 7 rfl 10 rfl 2 (by decide) kw244 rfl dX6_findOrder_90 ?_
        refine lv_if_eq (tgt := 105) C.1 C.2.1 dX6_findOrder_93 (by decide) (fun c125 => ?_) (fun c125 => ?_)
        · skip
          have c125 : qa_black.toInt = 0 := i_eqT (X := qa_black.toInt) (Y := 0) rfl rfl c125
          refine lv_aload_n C.1 C.2.1 dX6_findOrder_105 rfl (lv_at hl 2 rfl) ?_
          refine lv_aload_n C.1 C.2.1 dX6_findOrder_106 rfl (lv_at hl 3 rfl) ?_
          refine lv_iconst (v := 0) C.1 C.2.1 dX6_findOrder_107 (by decide) ?_
          refine lv_iload_n C.1 C.2.1 dX6_findOrder_108 rfl (lv_at hl 1 rfl) ?_
          refine lv_aload_n C.1 C.2.1 dX6_findOrder_109 rfl (lv_at hl 4 rfl) ?_
          refine x_get C hw iwX8 7 rfl 10 rfl 3 (by decide) kw248 rfl dX6_findOrder_110 ?_
          refine lv_aload_n C.1 C.2.1 dX6_findOrder_113 rfl (lv_at hl 4 rfl) ?_
          refine x_get C hw iwX8 7 rfl 10 rfl 1 (by decide) kw241 rfl dX6_findOrder_114 ?_
          refine lv_iconst (v := 0) C.1 C.2.1 dX6_findOrder_117 (by decide) ?_
          refine x_callvV (As := [.ref qs, .int 0, .int j86, .int qa_so, .int qa_heat, .int 0]) (rest := []) (wr := [(qs_needs, eI G 8 qs_needs_c), (qs_likes, eI G 8 qs_likes_c), (qs_hates, eI G 8 qs_hates_c), (qs_near, eI G 8 qs_near_c), (qa, .inr (7, [.int qa_hour, .int qa_heat, .int qa_black, .int qa_so, .int qa_cracked, .int qa_behind, .int qa_allSighs, .int qa_seed, .ref qa_pictures, .ref qa_shown, .ref qa_sighed])), (qa_pictures, eI G 6 qa_pictures_c)]) C hw (s_X6_goOn qf qs 0 j86 qa_so qa_heat 0 qf_bestPath qf_bestSize (-1) qf_path j87 qf_picture qf_behind qf_bestPath_c qf_path_c qs_slides qs_hearers qs_nears qs_lines qs_pass qs_spread qs_lamp qs_behind qs_settingsTold qs_slideNames qs_pictures qs_heats qs_after qs_hearerNames qs_needs qs_likes qs_hates qs_near qs_heats_c qs_after_c (by decide) (by omega) (by omega) (by omega) hf_qs_after_c) mwX6_goOn kw829 [0, 1, 2, 3, 4, 5] [6, 7, 8, 9, 10, 11] rfl rfl rfl rfl (by decide) 0 rfl rfl rfl rfl hl.1 rfl (Nat.le_of_ble_eq_true rfl) ⟨(Nat.le_of_ble_eq_true rfl), (Nat.le_of_ble_eq_true rfl)⟩ ⟨(Nat.le_of_ble_eq_true rfl), (Nat.le_of_ble_eq_true rfl)⟩ dX6_findOrder_118 (fun  u9 H locs hp9 hw => ?_)
          obtain ⟨x126, x127, x128, x129, rfl, hf130⟩ := hp9
          have hw : Wd G s A [(qs_needs, eI G 8 qs_needs_c), (qs_likes, eI G 8 qs_likes_c), (qs_hates, eI G 8 qs_hates_c), (qs_near, eI G 8 qs_near_c), (qa, .inr (7, [.int qa_hour, .int qa_heat, .int qa_black, .int qa_so, .int qa_cracked, .int qa_behind, .int qa_allSighs, .int qa_seed, .ref qa_pictures, .ref qa_shown, .ref qa_sighed])), (qa_pictures, eI G 6 qa_pictures_c), (qf, .inr (5, [.ref qf_bestPath, .int x126, .int x127, .ref qf_path, .int j87, .int qf_picture, .int qf_behind])), (qf_bestPath, eI G 6 x128), (qf_path, eI G 6 x129), (qs, .inr (4, [.int qs_slides, .int qs_hearers, .int qs_nears, .int qs_lines, .int qs_pass, .int qs_spread, .int qs_lamp, .int qs_behind, .int qs_settingsTold, .ref qs_slideNames, .ref qs_pictures, .ref qs_heats, .ref qs_after, .ref qs_hearerNames, .ref qs_needs, .ref qs_likes, .ref qs_hates, .ref qs_near])), (qs_heats, eI G 6 qs_heats_c), (qs_after, eI G 6 qs_after_c)] H _ := hw
          refine lv_aload_n C.1 C.2.1 dX6_findOrder_121 rfl (lv_at hl 2 rfl) ?_
          refine x_get C hw iwX6 5 rfl 6 rfl 2 (by decide) kw381 rfl dX6_findOrder_122 ?_
          have hw := hw.sub (w' := [(qf, .inr (5, [.ref qf_bestPath, .int x126, .int x127, .ref qf_path, .int j87, .int qf_picture, .int qf_behind])), (qf_bestPath, eI G 6 x128), (qf_path, eI G 6 x129), (qs, .inr (4, [.int qs_slides, .int qs_hearers, .int qs_nears, .int qs_lines, .int qs_pass, .int qs_spread, .int qs_lamp, .int qs_behind, .int qs_settingsTold, .ref qs_slideNames, .ref qs_pictures, .ref qs_heats, .ref qs_after, .ref qs_hearerNames, .ref qs_needs, .ref qs_likes, .ref qs_hates, .ref qs_near])), (qs_heats, eI G 6 qs_heats_c), (qs_after, eI G 6 qs_after_c), (qs_needs, eI G 8 qs_needs_c), (qs_likes, eI G 8 qs_likes_c), (qs_hates, eI G 8 qs_hates_c), (qs_near, eI G 8 qs_near_c), (qa, .inr (7, [.int qa_hour, .int qa_heat, .int qa_black, .int qa_so, .int qa_cracked, .int qa_behind, .int qa_allSighs, .int qa_seed, .ref qa_pictures, .ref qa_shown, .ref qa_sighed])), (qa_pictures, eI G 6 qa_pictures_c)]) [6, 7, 8, 9, 10, 11, 0, 1, 2, 3, 4, 5] rfl rfl
          exact x_retiQ hQ B hw ⟨x126, x127, j87, x128, x129, x127, rfl, rfl, (by omega)⟩ (Nat.le_of_ble_eq_true rfl) (Nat.le_of_ble_eq_true rfl) dX6_findOrder_125
        · skip
          have c125 : qa_black.toInt ≠ 0 := i_eqF (X := qa_black.toInt) (Y := 0) rfl rfl c125
          refine lv_aload_n C.1 C.2.1 dX6_findOrder_96 rfl (lv_at hl 2 rfl) ?_
          refine lv_iconst (v := 0) C.1 C.2.1 dX6_findOrder_97 (by decide) ?_
          refine lv_iconst (v := 0) C.1 C.2.1 dX6_findOrder_98 (by decide) ?_
          refine x_callvV (As := [.int 0, .int 0]) (rest := []) (wr := [(qs, .inr (4, [.int qs_slides, .int qs_hearers, .int qs_nears, .int qs_lines, .int qs_pass, .int qs_spread, .int qs_lamp, .int qs_behind, .int qs_settingsTold, .ref qs_slideNames, .ref qs_pictures, .ref qs_heats, .ref qs_after, .ref qs_hearerNames, .ref qs_needs, .ref qs_likes, .ref qs_hates, .ref qs_near])), (qs_heats, eI G 6 qs_heats_c), (qs_after, eI G 6 qs_after_c), (qs_needs, eI G 8 qs_needs_c), (qs_likes, eI G 8 qs_likes_c), (qs_hates, eI G 8 qs_hates_c), (qs_near, eI G 8 qs_near_c), (qa, .inr (7, [.int qa_hour, .int qa_heat, .int qa_black, .int qa_so, .int qa_cracked, .int qa_behind, .int qa_allSighs, .int qa_seed, .ref qa_pictures, .ref qa_shown, .ref qa_sighed])), (qa_pictures, eI G 6 qa_pictures_c)]) C hw (s_X6_keepIfBetter qf 0 0 qf_bestPath qf_bestSize (-1) qf_path j87 qf_picture qf_behind qf_bestPath_c qf_path_c (by decide) (by omega)) mwX6_keepIfBetter kw824 [0, 1, 2] [3, 4, 5, 6, 7, 8, 9, 10, 11] rfl rfl rfl rfl (by decide) 0 rfl rfl rfl rfl hl.1 rfl (Nat.le_of_ble_eq_true rfl) ⟨(Nat.le_of_ble_eq_true rfl), (Nat.le_of_ble_eq_true rfl)⟩ ⟨(Nat.le_of_ble_eq_true rfl), (Nat.le_of_ble_eq_true rfl)⟩ dX6_findOrder_99 (fun  u9 H locs hp9 hw => ?_)
          obtain ⟨x131, x132, x133, rfl, hf134⟩ := hp9
          have hw : Wd G s A [(qs, .inr (4, [.int qs_slides, .int qs_hearers, .int qs_nears, .int qs_lines, .int qs_pass, .int qs_spread, .int qs_lamp, .int qs_behind, .int qs_settingsTold, .ref qs_slideNames, .ref qs_pictures, .ref qs_heats, .ref qs_after, .ref qs_hearerNames, .ref qs_needs, .ref qs_likes, .ref qs_hates, .ref qs_near])), (qs_heats, eI G 6 qs_heats_c), (qs_after, eI G 6 qs_after_c), (qs_needs, eI G 8 qs_needs_c), (qs_likes, eI G 8 qs_likes_c), (qs_hates, eI G 8 qs_hates_c), (qs_near, eI G 8 qs_near_c), (qa, .inr (7, [.int qa_hour, .int qa_heat, .int qa_black, .int qa_so, .int qa_cracked, .int qa_behind, .int qa_allSighs, .int qa_seed, .ref qa_pictures, .ref qa_shown, .ref qa_sighed])), (qa_pictures, eI G 6 qa_pictures_c), (qf, .inr (5, [.ref qf_bestPath, .int x131, .int x132, .ref qf_path, .int j87, .int qf_picture, .int qf_behind])), (qf_bestPath, eI G 6 x133), (qf_path, eI G 6 qf_path_c)] H _ := hw
          refine lv_goto (tgt := 121) C.1 C.2.1 dX6_findOrder_102 (by decide) ?_
          refine lv_aload_n C.1 C.2.1 dX6_findOrder_121 rfl (lv_at hl 2 rfl) ?_
          refine x_get C hw iwX6 5 rfl 9 rfl 2 (by decide) kw381 rfl dX6_findOrder_122 ?_
          have hw := hw.sub (w' := [(qf, .inr (5, [.ref qf_bestPath, .int x131, .int x132, .ref qf_path, .int j87, .int qf_picture, .int qf_behind])), (qf_bestPath, eI G 6 x133), (qf_path, eI G 6 qf_path_c), (qs, .inr (4, [.int qs_slides, .int qs_hearers, .int qs_nears, .int qs_lines, .int qs_pass, .int qs_spread, .int qs_lamp, .int qs_behind, .int qs_settingsTold, .ref qs_slideNames, .ref qs_pictures, .ref qs_heats, .ref qs_after, .ref qs_hearerNames, .ref qs_needs, .ref qs_likes, .ref qs_hates, .ref qs_near])), (qs_heats, eI G 6 qs_heats_c), (qs_after, eI G 6 qs_after_c), (qs_needs, eI G 8 qs_needs_c), (qs_likes, eI G 8 qs_likes_c), (qs_hates, eI G 8 qs_hates_c), (qs_near, eI G 8 qs_near_c), (qa, .inr (7, [.int qa_hour, .int qa_heat, .int qa_black, .int qa_so, .int qa_cracked, .int qa_behind, .int qa_allSighs, .int qa_seed, .ref qa_pictures, .ref qa_shown, .ref qa_sighed])), (qa_pictures, eI G 6 qa_pictures_c)]) [9, 10, 11, 0, 1, 2, 3, 4, 5, 6, 7, 8] rfl rfl
          exact x_retiQ hQ B hw ⟨x131, x132, j87, x133, qf_path_c, x132, rfl, rfl, (by omega)⟩ (Nat.le_of_ble_eq_true rfl) (Nat.le_of_ble_eq_true rfl) dX6_findOrder_125
      · skip
        have c107 : j85.toInt < qs_slides.toInt := i_leF (X := qs_slides.toInt) (Y := j85.toInt) rfl rfl c107
        refine lv_aload_n C.1 C.2.1 dX6_findOrder_19 rfl (lv_at hl 4 rfl) ?_
        refine x_get C hw iwX8 7 rfl 10 rfl 3 (by decide) kw248 rfl dX6_findOrder_20 ?_
        refine lv_aload_n C.1 C.2.1 dX6_findOrder_23 rfl (lv_at hl 4 rfl) ?_
        refine x_get C hw iwX8 7 rfl 10 rfl 4 (by decide) kw252 rfl dX6_findOrder_24 ?_
        refine lv_ior C.1 C.2.1 dX6_findOrder_27 (x_gen (fun v135 => ?_))
        refine lv_iload C.1 C.2.1 dX6_findOrder_28 (lv_at hl 0 rfl) ?_
        refine lv_ishr C.1 C.2.1 dX6_findOrder_30 (x_gen (fun v136 => ?_))
        refine lv_iconst (v := 1) C.1 C.2.1 dX6_findOrder_31 (by decide) ?_
        refine lv_iand C.1 C.2.1 dX6_findOrder_32 (x_genP (fun z : Int32 => 0 ≤ z.toInt ∧ z.toInt ≤ 1) (i_andR 1 rfl (by decide) rfl) (fun v137 hv137 => ?_))
        have J142 : ∀ (j141 : Int32), ∀ (H : Heap) (locs : List Loc) (ls : Array Slot), Wd G s A [(qf, .inr (5, [.ref qf_bestPath, .int qf_bestSize, .int qf_bestPassed, .ref qf_path, .int j87, .int qf_picture, .int qf_behind])), (qf_bestPath, eI G 6 qf_bestPath_c), (qf_path, eI G 6 qf_path_c), (qs, .inr (4, [.int qs_slides, .int qs_hearers, .int qs_nears, .int qs_lines, .int qs_pass, .int qs_spread, .int qs_lamp, .int qs_behind, .int qs_settingsTold, .ref qs_slideNames, .ref qs_pictures, .ref qs_heats, .ref qs_after, .ref qs_hearerNames, .ref qs_needs, .ref qs_likes, .ref qs_hates, .ref qs_near])), (qs_heats, eI G 6 qs_heats_c), (qs_after, eI G 6 qs_after_c), (qs_needs, eI G 8 qs_needs_c), (qs_likes, eI G 8 qs_likes_c), (qs_hates, eI G 8 qs_hates_c), (qs_near, eI G 8 qs_near_c), (qa, .inr (7, [.int qa_hour, .int qa_heat, .int qa_black, .int qa_so, .int qa_cracked, .int qa_behind, .int qa_allSighs, .int qa_seed, .ref qa_pictures, .ref qa_shown, .ref qa_sighed])), (qa_pictures, eI G 6 qa_pictures_c)] H locs → lv_has ls 5 [(4, .int j85), (3, .int j141), (0, .ref qf), (1, .ref qs), (2, .ref qa)] → W p l e (rmD 11 0 0) s m args below meth c H locs 0 0 Q (F0 m 43 ls []) := by
          intro j141  H locs ls hw hl
          refine lv_aload_n C.1 C.2.1 dX6_findOrder_43 rfl (lv_at hl 3 rfl) ?_
          refine lv_aload_n C.1 C.2.1 dX6_findOrder_44 rfl (lv_at hl 3 rfl) ?_
          refine lv_aload_n C.1 C.2.1 dX6_findOrder_45 rfl (lv_at hl 4 rfl) ?_
          refine x_get C hw iwX8 7 rfl 10 rfl 8 (by decide) kw264 rfl dX6_findOrder_46 ?_
          refine lv_iload C.1 C.2.1 dX6_findOrder_49 (lv_at hl 0 rfl) ?_
          refine x_iald (v := (qa_pictures_c j85.toNatClampNeg)) C hw 11 rfl (i_in (by omega) (by omega)) rfl dX6_findOrder_51 (x_gen (fun v143 => ?_))
          refine lv_aload_n C.1 C.2.1 dX6_findOrder_52 rfl (lv_at hl 4 rfl) ?_
          refine x_get C hw iwX8 7 rfl 10 rfl 5 (by decide) kw257 rfl dX6_findOrder_53 ?_
          refine x_calliV (As := [.int v143, .int qa_behind]) (rest := [.ref qs]) (wr := [(qf, .inr (5, [.ref qf_bestPath, .int qf_bestSize, .int qf_bestPassed, .ref qf_path, .int j87, .int qf_picture, .int qf_behind])), (qf_bestPath, eI G 6 qf_bestPath_c), (qf_path, eI G 6 qf_path_c), (qs_heats, eI G 6 qs_heats_c), (qs_after, eI G 6 qs_after_c), (qa, .inr (7, [.int qa_hour, .int qa_heat, .int qa_black, .int qa_so, .int qa_cracked, .int qa_behind, .int qa_allSighs, .int qa_seed, .ref qa_pictures, .ref qa_shown, .ref qa_sighed])), (qa_pictures, eI G 6 qa_pictures_c)]) C hw (s_X5_sighers qs v143 qa_behind qs_slides qs_hearers qs_nears qs_lines qs_pass qs_spread qs_lamp qs_behind qs_settingsTold qs_slideNames qs_pictures qs_heats qs_after qs_hearerNames qs_needs qs_likes qs_hates qs_near qs_needs_c qs_likes_c qs_hates_c qs_near_c (by omega) (by omega)) mwX5_sighers kw822 [3, 6, 7, 8, 9] [0, 1, 2, 4, 5, 10, 11] rfl rfl rfl rfl (by decide) 0 rfl rfl rfl rfl hl.1 rfl (Nat.le_of_ble_eq_true rfl) ⟨(Nat.le_of_ble_eq_true rfl), (Nat.le_of_ble_eq_true rfl)⟩ ⟨(Nat.le_of_ble_eq_true rfl), (Nat.le_of_ble_eq_true rfl)⟩ dX6_findOrder_56 (fun r144 u9 H locs hp9 hw => ?_)
          obtain ⟨x145, rfl, rfl⟩ := hp9
          have hw : Wd G s A [(qf, .inr (5, [.ref qf_bestPath, .int qf_bestSize, .int qf_bestPassed, .ref qf_path, .int j87, .int qf_picture, .int qf_behind])), (qf_bestPath, eI G 6 qf_bestPath_c), (qf_path, eI G 6 qf_path_c), (qs_heats, eI G 6 qs_heats_c), (qs_after, eI G 6 qs_after_c), (qa, .inr (7, [.int qa_hour, .int qa_heat, .int qa_black, .int qa_so, .int qa_cracked, .int qa_behind, .int qa_allSighs, .int qa_seed, .ref qa_pictures, .ref qa_shown, .ref qa_sighed])), (qa_pictures, eI G 6 qa_pictures_c), (qs, .inr (4, [.int qs_slides, .int qs_hearers, .int qs_nears, .int qs_lines, .int qs_pass, .int qs_spread, .int qs_lamp, .int qs_behind, .int qs_settingsTold, .ref qs_slideNames, .ref qs_pictures, .ref qs_heats, .ref qs_after, .ref qs_hearerNames, .ref qs_needs, .ref qs_likes, .ref qs_hates, .ref qs_near])), (qs_needs, eI G 8 qs_needs_c), (qs_likes, eI G 8 qs_likes_c), (qs_hates, eI G 8 qs_hates_c), (qs_near, eI G 8 qs_near_c)] H _ := hw
          refine x_calliV (As := [.int r144]) (rest := []) (wr := [(qf, .inr (5, [.ref qf_bestPath, .int qf_bestSize, .int qf_bestPassed, .ref qf_path, .int j87, .int qf_picture, .int qf_behind])), (qf_bestPath, eI G 6 qf_bestPath_c), (qf_path, eI G 6 qf_path_c), (qs_heats, eI G 6 qs_heats_c), (qs_after, eI G 6 qs_after_c), (qa, .inr (7, [.int qa_hour, .int qa_heat, .int qa_black, .int qa_so, .int qa_cracked, .int qa_behind, .int qa_allSighs, .int qa_seed, .ref qa_pictures, .ref qa_shown, .ref qa_sighed])), (qa_pictures, eI G 6 qa_pictures_c), (qs_needs, eI G 8 qs_needs_c), (qs_likes, eI G 8 qs_likes_c), (qs_hates, eI G 8 qs_hates_c), (qs_near, eI G 8 qs_near_c)]) C hw (s_X5_isEnough qs r144 qs_slides qs_hearers qs_nears qs_lines qs_pass qs_spread qs_lamp qs_behind qs_settingsTold qs_slideNames qs_pictures qs_heats qs_after qs_hearerNames qs_needs qs_likes qs_hates qs_near (by omega) (by omega)) mwX5_isEnough kw823 [7] [0, 1, 2, 3, 4, 5, 6, 8, 9, 10, 11] rfl rfl rfl rfl (by decide) 0 rfl rfl rfl rfl hl.1 rfl (Nat.le_of_ble_eq_true rfl) ⟨(Nat.le_of_ble_eq_true rfl), (Nat.le_of_ble_eq_true rfl)⟩ ⟨(Nat.le_of_ble_eq_true rfl), (Nat.le_of_ble_eq_true rfl)⟩ dX6_findOrder_59 (fun r146 u9 H locs hp9 hw => ?_)
          have J150 : ∀ (j149 : Int32), ∀ (H : Heap) (locs : List Loc) (ls : Array Slot), Wd G s A [(qf, .inr (5, [.ref qf_bestPath, .int qf_bestSize, .int qf_bestPassed, .ref qf_path, .int j149, .int qf_picture, .int qf_behind])), (qf_bestPath, eI G 6 qf_bestPath_c), (qf_path, eI G 6 qf_path_c), (qs_heats, eI G 6 qs_heats_c), (qs_after, eI G 6 qs_after_c), (qa, .inr (7, [.int qa_hour, .int qa_heat, .int qa_black, .int qa_so, .int qa_cracked, .int qa_behind, .int qa_allSighs, .int qa_seed, .ref qa_pictures, .ref qa_shown, .ref qa_sighed])), (qa_pictures, eI G 6 qa_pictures_c), (qs, .inr (4, [.int qs_slides, .int qs_hearers, .int qs_nears, .int qs_lines, .int qs_pass, .int qs_spread, .int qs_lamp, .int qs_behind, .int qs_settingsTold, .ref qs_slideNames, .ref qs_pictures, .ref qs_heats, .ref qs_after, .ref qs_hearerNames, .ref qs_needs, .ref qs_likes, .ref qs_hates, .ref qs_near])), (qs_needs, eI G 8 qs_needs_c), (qs_likes, eI G 8 qs_likes_c), (qs_hates, eI G 8 qs_hates_c), (qs_near, eI G 8 qs_near_c)] H locs → lv_has ls 5 [(4, .int j85), (3, .int j141), (0, .ref qf), (1, .ref qs), (2, .ref qa)] → W p l e (rmD 11 0 0) s m args below meth c H locs 0 0 Q (F0 m 78 ls []) := by
            intro j149  H locs ls hw hl
            obtain ⟨v151, ev151⟩ : ∃ z : Int32, j85 + 1 = z := ⟨_, rfl⟩
            have hv151 : v151.toInt = j85.toInt + 1 := by rw [← ev151]; exact i_add rfl rfl (by omega) (by omega)
            refine lv_iinc (v := v151) (lv' := [(4, .int v151), (3, .int j141), (0, .ref qf), (1, .ref qs), (2, .ref qa)]) C.1 C.2.1 dX6_findOrder_78 hl (k := 0) rfl ev151 (by decide) rfl (fun ls hl => ?_)
            refine lv_goto (tgt := 10) C.1 C.2.1 dX6_findOrder_81 (by decide) ?_
            have hw := hw.sub (w' := [(qf, .inr (5, [.ref qf_bestPath, .int qf_bestSize, .int qf_bestPassed, .ref qf_path, .int j149, .int qf_picture, .int qf_behind])), (qf_bestPath, eI G 6 qf_bestPath_c), (qf_path, eI G 6 qf_path_c), (qs, .inr (4, [.int qs_slides, .int qs_hearers, .int qs_nears, .int qs_lines, .int qs_pass, .int qs_spread, .int qs_lamp, .int qs_behind, .int qs_settingsTold, .ref qs_slideNames, .ref qs_pictures, .ref qs_heats, .ref qs_after, .ref qs_hearerNames, .ref qs_needs, .ref qs_likes, .ref qs_hates, .ref qs_near])), (qs_heats, eI G 6 qs_heats_c), (qs_after, eI G 6 qs_after_c), (qs_needs, eI G 8 qs_needs_c), (qs_likes, eI G 8 qs_likes_c), (qs_hates, eI G 8 qs_hates_c), (qs_near, eI G 8 qs_near_c), (qa, .inr (7, [.int qa_hour, .int qa_heat, .int qa_black, .int qa_so, .int qa_cracked, .int qa_behind, .int qa_allSighs, .int qa_seed, .ref qa_pictures, .ref qa_shown, .ref qa_sighed])), (qa_pictures, eI G 6 qa_pictures_c)]) [0, 1, 2, 7, 3, 4, 8, 9, 10, 11, 5, 6] rfl rfl
            exact ihJ88 v151 j141 j149 (by omega) (by omega) _ _ _ hw (lv_sub hl [0, 1, 2, 3, 4] rfl)
          rcases hp9 with ⟨rfl, rfl⟩ | ⟨rfl, rfl⟩
          · skip
            have hw : Wd G s A [(qf, .inr (5, [.ref qf_bestPath, .int qf_bestSize, .int qf_bestPassed, .ref qf_path, .int j87, .int qf_picture, .int qf_behind])), (qf_bestPath, eI G 6 qf_bestPath_c), (qf_path, eI G 6 qf_path_c), (qs_heats, eI G 6 qs_heats_c), (qs_after, eI G 6 qs_after_c), (qa, .inr (7, [.int qa_hour, .int qa_heat, .int qa_black, .int qa_so, .int qa_cracked, .int qa_behind, .int qa_allSighs, .int qa_seed, .ref qa_pictures, .ref qa_shown, .ref qa_sighed])), (qa_pictures, eI G 6 qa_pictures_c), (qs_needs, eI G 8 qs_needs_c), (qs_likes, eI G 8 qs_likes_c), (qs_hates, eI G 8 qs_hates_c), (qs_near, eI G 8 qs_near_c), (qs, .inr (4, [.int qs_slides, .int qs_hearers, .int qs_nears, .int qs_lines, .int qs_pass, .int qs_spread, .int qs_lamp, .int qs_behind, .int qs_settingsTold, .ref qs_slideNames, .ref qs_pictures, .ref qs_heats, .ref qs_after, .ref qs_hearerNames, .ref qs_needs, .ref qs_likes, .ref qs_hates, .ref qs_near]))] H _ := hw
            refine lv_if_eq (tgt := 78) C.1 C.2.1 dX6_findOrder_62 (by decide) (fun _ => ?_) (fun h9 => absurd (by decide) h9)
            have hw := hw.sub (w' := [(qf, .inr (5, [.ref qf_bestPath, .int qf_bestSize, .int qf_bestPassed, .ref qf_path, .int j87, .int qf_picture, .int qf_behind])), (qf_bestPath, eI G 6 qf_bestPath_c), (qf_path, eI G 6 qf_path_c), (qs_heats, eI G 6 qs_heats_c), (qs_after, eI G 6 qs_after_c), (qa, .inr (7, [.int qa_hour, .int qa_heat, .int qa_black, .int qa_so, .int qa_cracked, .int qa_behind, .int qa_allSighs, .int qa_seed, .ref qa_pictures, .ref qa_shown, .ref qa_sighed])), (qa_pictures, eI G 6 qa_pictures_c), (qs, .inr (4, [.int qs_slides, .int qs_hearers, .int qs_nears, .int qs_lines, .int qs_pass, .int qs_spread, .int qs_lamp, .int qs_behind, .int qs_settingsTold, .ref qs_slideNames, .ref qs_pictures, .ref qs_heats, .ref qs_after, .ref qs_hearerNames, .ref qs_needs, .ref qs_likes, .ref qs_hates, .ref qs_near])), (qs_needs, eI G 8 qs_needs_c), (qs_likes, eI G 8 qs_likes_c), (qs_hates, eI G 8 qs_hates_c), (qs_near, eI G 8 qs_near_c)]) [0, 1, 2, 3, 4, 5, 6, 11, 7, 8, 9, 10] rfl rfl
            exact J150 j87   _ _ _ hw (lv_sub hl [0, 1, 2, 3, 4] rfl)
          · skip
            have hw : Wd G s A [(qf, .inr (5, [.ref qf_bestPath, .int qf_bestSize, .int qf_bestPassed, .ref qf_path, .int j87, .int qf_picture, .int qf_behind])), (qf_bestPath, eI G 6 qf_bestPath_c), (qf_path, eI G 6 qf_path_c), (qs_heats, eI G 6 qs_heats_c), (qs_after, eI G 6 qs_after_c), (qa, .inr (7, [.int qa_hour, .int qa_heat, .int qa_black, .int qa_so, .int qa_cracked, .int qa_behind, .int qa_allSighs, .int qa_seed, .ref qa_pictures, .ref qa_shown, .ref qa_sighed])), (qa_pictures, eI G 6 qa_pictures_c), (qs_needs, eI G 8 qs_needs_c), (qs_likes, eI G 8 qs_likes_c), (qs_hates, eI G 8 qs_hates_c), (qs_near, eI G 8 qs_near_c), (qs, .inr (4, [.int qs_slides, .int qs_hearers, .int qs_nears, .int qs_lines, .int qs_pass, .int qs_spread, .int qs_lamp, .int qs_behind, .int qs_settingsTold, .ref qs_slideNames, .ref qs_pictures, .ref qs_heats, .ref qs_after, .ref qs_hearerNames, .ref qs_needs, .ref qs_likes, .ref qs_hates, .ref qs_near]))] H _ := hw
            refine lv_if_eq (tgt := 78) C.1 C.2.1 dX6_findOrder_62 (by decide) (fun h9 => absurd h9 (by decide)) (fun _ => ?_)
            refine lv_aload_n C.1 C.2.1 dX6_findOrder_65 rfl (lv_at hl 2 rfl) ?_
            refine lv_dup C.1 C.2.1 dX6_findOrder_66 rfl ?_
            refine x_get C hw iwX6 5 rfl 0 rfl 4 (by decide) kw383 rfl dX6_findOrder_67 ?_
            refine lv_iconst (v := 1) C.1 C.2.1 dX6_findOrder_70 (by decide) ?_
            refine lv_iload C.1 C.2.1 dX6_findOrder_71 (lv_at hl 0 rfl) ?_
            refine lv_ishl C.1 C.2.1 dX6_findOrder_73 (x_genP (fun z : Int32 => 1 ≤ z.toInt ∧ z.toInt ≤ 256) (i_shl1 (by omega) (by omega)) (fun v152 hv152 => ?_))
            refine lv_ior C.1 C.2.1 dX6_findOrder_74 (x_gen (fun v153 => ?_))
            refine x_put (w' := [(qf, .inr (5, [.ref qf_bestPath, .int qf_bestSize, .int qf_bestPassed, .ref qf_path, .int v153, .int qf_picture, .int qf_behind])), (qf_bestPath, eI G 6 qf_bestPath_c), (qf_path, eI G 6 qf_path_c), (qs_heats, eI G 6 qs_heats_c), (qs_after, eI G 6 qs_after_c), (qa, .inr (7, [.int qa_hour, .int qa_heat, .int qa_black, .int qa_so, .int qa_cracked, .int qa_behind, .int qa_allSighs, .int qa_seed, .ref qa_pictures, .ref qa_shown, .ref qa_sighed])), (qa_pictures, eI G 6 qa_pictures_c), (qs_needs, eI G 8 qs_needs_c), (qs_likes, eI G 8 qs_likes_c), (qs_hates, eI G 8 qs_hates_c), (qs_near, eI G 8 qs_near_c), (qs, .inr (4, [.int qs_slides, .int qs_hearers, .int qs_nears, .int qs_lines, .int qs_pass, .int qs_spread, .int qs_lamp, .int qs_behind, .int qs_settingsTold, .ref qs_slideNames, .ref qs_pictures, .ref qs_heats, .ref qs_after, .ref qs_hearerNames, .ref qs_needs, .ref qs_likes, .ref qs_hates, .ref qs_near]))]) C hw iwX6 tyX6_ok nmX6 5 rfl 0 rfl 4 (by decide) kw383 rfl rfl rfl (Nat.le_of_ble_eq_true rfl) rfl dX6_findOrder_75 (fun H locs hw => ?_)
            have hw := hw.sub (w' := [(qf, .inr (5, [.ref qf_bestPath, .int qf_bestSize, .int qf_bestPassed, .ref qf_path, .int v153, .int qf_picture, .int qf_behind])), (qf_bestPath, eI G 6 qf_bestPath_c), (qf_path, eI G 6 qf_path_c), (qs_heats, eI G 6 qs_heats_c), (qs_after, eI G 6 qs_after_c), (qa, .inr (7, [.int qa_hour, .int qa_heat, .int qa_black, .int qa_so, .int qa_cracked, .int qa_behind, .int qa_allSighs, .int qa_seed, .ref qa_pictures, .ref qa_shown, .ref qa_sighed])), (qa_pictures, eI G 6 qa_pictures_c), (qs, .inr (4, [.int qs_slides, .int qs_hearers, .int qs_nears, .int qs_lines, .int qs_pass, .int qs_spread, .int qs_lamp, .int qs_behind, .int qs_settingsTold, .ref qs_slideNames, .ref qs_pictures, .ref qs_heats, .ref qs_after, .ref qs_hearerNames, .ref qs_needs, .ref qs_likes, .ref qs_hates, .ref qs_near])), (qs_needs, eI G 8 qs_needs_c), (qs_likes, eI G 8 qs_likes_c), (qs_hates, eI G 8 qs_hates_c), (qs_near, eI G 8 qs_near_c)]) [0, 1, 2, 3, 4, 5, 6, 11, 7, 8, 9, 10] rfl rfl
            exact J150 v153   _ _ _ hw (lv_sub hl [0, 1, 2, 3, 4] rfl)
        refine lv_if_ne (tgt := 43) C.1 C.2.1 dX6_findOrder_33 (by decide) (fun c138 => ?_) (fun c138 => ?_)
        · skip
          have c138 : v137.toInt ≠ 0 := i_eqF (X := v137.toInt) (Y := 0) rfl rfl c138
          exact J142 j86   _ _ _ hw (lv_sub hl [0, 1, 2, 3, 4] rfl)
        · skip
          have c138 : v137.toInt = 0 := i_eqT (X := v137.toInt) (Y := 0) rfl rfl c138
          refine lv_iload_n C.1 C.2.1 dX6_findOrder_36 rfl (lv_at hl 1 rfl) ?_
          refine lv_iconst (v := 1) C.1 C.2.1 dX6_findOrder_37 (by decide) ?_
          refine lv_iload C.1 C.2.1 dX6_findOrder_38 (lv_at hl 0 rfl) ?_
          refine lv_ishl C.1 C.2.1 dX6_findOrder_40 (x_genP (fun z : Int32 => 1 ≤ z.toInt ∧ z.toInt ≤ 256) (i_shl1 (by omega) (by omega)) (fun v154 hv154 => ?_))
          refine lv_ior C.1 C.2.1 dX6_findOrder_41 (x_gen (fun v155 => ?_))
          refine lv_istore_n (lv' := [(3, .int v155), (4, .int j85), (0, .ref qf), (1, .ref qs), (2, .ref qa)]) C.1 C.2.1 dX6_findOrder_42 rfl hl (by decide) rfl (fun ls hl => ?_)
          exact J142 v155   _ _ _ hw (lv_sub hl [1, 0, 2, 3, 4] rfl)
  exact loopJ88 _ 0 0 0 (Nat.lt_succ_self _) (by decide) _ _ _ hw (lv_sub hl [0, 1, 2, 3, 4] rfl)
theorem dX6_findMoved_0 : decode cX6_findMoved 0 = .ok (.iconst 1, 1) := by decide +kernel
theorem dX6_findMoved_1 : decode cX6_findMoved 1 = .ok (.aload_n 1, 1) := by decide +kernel
theorem dX6_findMoved_2 : decode cX6_findMoved 2 = .ok (.getfield 85, 3) := by decide +kernel
theorem dX6_findMoved_5 : decode cX6_findMoved 5 = .ok (.ishl, 1) := by decide +kernel
theorem dX6_findMoved_6 : decode cX6_findMoved 6 = .ok (.iconst 1, 1) := by decide +kernel
theorem dX6_findMoved_7 : decode cX6_findMoved 7 = .ok (.isub, 1) := by decide +kernel
theorem dX6_findMoved_8 : decode cX6_findMoved 8 = .ok (.istore 4, 2) := by decide +kernel
theorem dX6_findMoved_10 : decode cX6_findMoved 10 = .ok (.aload_n 1, 1) := by decide +kernel
theorem dX6_findMoved_11 : decode cX6_findMoved 11 = .ok (.iload_n 3, 1) := by decide +kernel
theorem dX6_findMoved_12 : decode cX6_findMoved 12 = .ok (.iconst 0, 1) := by decide +kernel
theorem dX6_findMoved_13 : decode cX6_findMoved 13 = .ok (.invokevirtual 88, 3) := by decide +kernel
theorem dX6_findMoved_16 : decode cX6_findMoved 16 = .ok (.istore 5, 2) := by decide +kernel
theorem dX6_findMoved_18 : decode cX6_findMoved 18 = .ok (.aload_n 1, 1) := by decide +kernel
theorem dX6_findMoved_19 : decode cX6_findMoved 19 = .ok (.iload_n 3, 1) := by decide +kernel
theorem dX6_findMoved_20 : decode cX6_findMoved 20 = .ok (.iload 4, 2) := by decide +kernel
theorem dX6_findMoved_22 : decode cX6_findMoved 22 = .ok (.invokevirtual 88, 3) := by decide +kernel
theorem dX6_findMoved_25 : decode cX6_findMoved 25 = .ok (.istore 6, 2) := by decide +kernel
theorem dX6_findMoved_27 : decode cX6_findMoved 27 = .ok (.iconst (-1), 1) := by decide +kernel
theorem dX6_findMoved_28 : decode cX6_findMoved 28 = .ok (.istore 7, 2) := by decide +kernel
theorem dX6_findMoved_30 : decode cX6_findMoved 30 = .ok (.iconst 0, 1) := by decide +kernel
theorem dX6_findMoved_31 : decode cX6_findMoved 31 = .ok (.istore 8, 2) := by decide +kernel
theorem dX6_findMoved_33 : decode cX6_findMoved 33 = .ok (.iload 8, 2) := by decide +kernel
theorem dX6_findMoved_35 : decode cX6_findMoved 35 = .ok (.iload 4, 2) := by decide +kernel
theorem dX6_findMoved_37 : decode cX6_findMoved 37 = .ok (.if_icmp .gt 68, 3) := by decide +kernel
theorem dX6_findMoved_40 : decode cX6_findMoved 40 = .ok (.iload 7, 2) := by decide +kernel
theorem dX6_findMoved_42 : decode cX6_findMoved 42 = .ok (.iconst (-1), 1) := by decide +kernel
theorem dX6_findMoved_43 : decode cX6_findMoved 43 = .ok (.if_icmp .eq 19, 3) := by decide +kernel
theorem dX6_findMoved_62 : decode cX6_findMoved 62 = .ok (.aload_n 2, 1) := by decide +kernel
theorem dX6_findMoved_63 : decode cX6_findMoved 63 = .ok (.getfield 38, 3) := by decide +kernel
theorem dX6_findMoved_66 : decode cX6_findMoved 66 = .ok (.iload 8, 2) := by decide +kernel
theorem dX6_findMoved_68 : decode cX6_findMoved 68 = .ok (.ixor, 1) := by decide +kernel
theorem dX6_findMoved_69 : decode cX6_findMoved 69 = .ok (.istore 9, 2) := by decide +kernel
theorem dX6_findMoved_71 : decode cX6_findMoved 71 = .ok (.aload_n 1, 1) := by decide +kernel
theorem dX6_findMoved_72 : decode cX6_findMoved 72 = .ok (.aload_n 1, 1) := by decide +kernel
theorem dX6_findMoved_73 : decode cX6_findMoved 73 = .ok (.iload 5, 2) := by decide +kernel
theorem dX6_findMoved_75 : decode cX6_findMoved 75 = .ok (.iload 9, 2) := by decide +kernel
theorem dX6_findMoved_77 : decode cX6_findMoved 77 = .ok (.iconst (-1), 1) := by decide +kernel
theorem dX6_findMoved_78 : decode cX6_findMoved 78 = .ok (.ixor, 1) := by decide +kernel
theorem dX6_findMoved_79 : decode cX6_findMoved 79 = .ok (.iand, 1) := by decide +kernel
theorem dX6_findMoved_80 : decode cX6_findMoved 80 = .ok (.iload 6, 2) := by decide +kernel
theorem dX6_findMoved_82 : decode cX6_findMoved 82 = .ok (.iload 9, 2) := by decide +kernel
theorem dX6_findMoved_84 : decode cX6_findMoved 84 = .ok (.iand, 1) := by decide +kernel
theorem dX6_findMoved_85 : decode cX6_findMoved 85 = .ok (.ior, 1) := by decide +kernel
theorem dX6_findMoved_86 : decode cX6_findMoved 86 = .ok (.invokevirtual 97, 3) := by decide +kernel
theorem dX6_findMoved_89 : decode cX6_findMoved 89 = .ok (.invokevirtual 45, 3) := by decide +kernel
theorem dX6_findMoved_92 : decode cX6_findMoved 92 = .ok (.ifCond .eq 7, 3) := by decide +kernel
theorem dX6_findMoved_95 : decode cX6_findMoved 95 = .ok (.iload 8, 2) := by decide +kernel
theorem dX6_findMoved_97 : decode cX6_findMoved 97 = .ok (.istore 7, 2) := by decide +kernel
theorem dX6_findMoved_99 : decode cX6_findMoved 99 = .ok (.iinc 8 1, 3) := by decide +kernel
theorem dX6_findMoved_102 : decode cX6_findMoved 102 = .ok (.goto (-69), 3) := by decide +kernel
theorem dX6_findMoved_46 : decode cX6_findMoved 46 = .ok (.iload 8, 2) := by decide +kernel
theorem dX6_findMoved_48 : decode cX6_findMoved 48 = .ok (.invokestatic 91, 3) := by decide +kernel
theorem dX6_findMoved_51 : decode cX6_findMoved 51 = .ok (.iload 7, 2) := by decide +kernel
theorem dX6_findMoved_53 : decode cX6_findMoved 53 = .ok (.invokestatic 91, 3) := by decide +kernel
theorem dX6_findMoved_56 : decode cX6_findMoved 56 = .ok (.if_icmp .lt 6, 3) := by decide +kernel
theorem dX6_findMoved_59 : decode cX6_findMoved 59 = .ok (.goto 40, 3) := by decide +kernel
theorem dX6_findMoved_105 : decode cX6_findMoved 105 = .ok (.iload 7, 2) := by decide +kernel
theorem dX6_findMoved_107 : decode cX6_findMoved 107 = .ok (.ireturn, 1) := by decide +kernel
set_option maxHeartbeats 4000000 in
set_option maxRecDepth 100000 in
theorem s_X6_findMoved {l : Launch} {G : Gc} (qf : Nat) (qs : Nat) (qa : Nat) (a1 : Int32) (qf_bestPath : Nat) (qf_bestSize : Int32) (qf_bestPassed : Int32) (qf_path : Nat) (qf_passing : Int32) (qf_picture : Int32) (qf_behind : Int32) (qs_slides : Int32) (qs_hearers : Int32) (qs_nears : Int32) (qs_lines : Int32) (qs_pass : Int32) (qs_spread : Int32) (qs_lamp : Int32) (qs_behind : Int32) (qs_settingsTold : Int32) (qs_slideNames : Nat) (qs_pictures : Nat) (qs_heats : Nat) (qs_after : Nat) (qs_hearerNames : Nat) (qs_needs : Nat) (qs_likes : Nat) (qs_hates : Nat) (qs_near : Nat) (qs_needs_c : Nat → Int32) (qs_likes_c : Nat → Int32) (qs_hates_c : Nat → Int32) (qs_near_c : Nat → Int32) (qa_hour : Int32) (qa_heat : Int32) (qa_black : Int32) (qa_so : Int32) (qa_cracked : Int32) (qa_behind : Int32) (qa_allSighs : Int32) (qa_seed : Int32) (qa_pictures : Nat) (qa_shown : Nat) (qa_sighed : Nat) (hi_qf_bestSize : 0 ≤ qf_bestSize.toInt ∧ qf_bestSize.toInt ≤ 6) (hi_qs_slides : 0 ≤ qs_slides.toInt ∧ qs_slides.toInt ≤ 6) (hi_qs_hearers : 0 ≤ qs_hearers.toInt ∧ qs_hearers.toInt ≤ 8) (hi_qa_black : 0 ≤ qa_black.toInt ∧ qa_black.toInt ≤ 1) : Ci l yX6_findMoved cX6_findMoved 10 (some .int) 2 0 0 G [.ref qf, .ref qs, .ref qa, .int a1] [(qf, .inr (5, [.ref qf_bestPath, .int qf_bestSize, .int qf_bestPassed, .ref qf_path, .int qf_passing, .int qf_picture, .int qf_behind])), (qs, .inr (4, [.int qs_slides, .int qs_hearers, .int qs_nears, .int qs_lines, .int qs_pass, .int qs_spread, .int qs_lamp, .int qs_behind, .int qs_settingsTold, .ref qs_slideNames, .ref qs_pictures, .ref qs_heats, .ref qs_after, .ref qs_hearerNames, .ref qs_needs, .ref qs_likes, .ref qs_hates, .ref qs_near])), (qs_needs, eI G 8 qs_needs_c), (qs_likes, eI G 8 qs_likes_c), (qs_hates, eI G 8 qs_hates_c), (qs_near, eI G 8 qs_near_c), (qa, .inr (7, [.int qa_hour, .int qa_heat, .int qa_black, .int qa_so, .int qa_cracked, .int qa_behind, .int qa_allSighs, .int qa_seed, .ref qa_pictures, .ref qa_shown, .ref qa_sighed]))] (fun (r9 : Int32) (u9 : va_W) => ∃ (r_x : Int32), r9 = r_x ∧ u9 = [(qf, .inr (5, [.ref qf_bestPath, .int qf_bestSize, .int qf_bestPassed, .ref qf_path, .int qf_passing, .int qf_picture, .int qf_behind])), (qs, .inr (4, [.int qs_slides, .int qs_hearers, .int qs_nears, .int qs_lines, .int qs_pass, .int qs_spread, .int qs_lamp, .int qs_behind, .int qs_settingsTold, .ref qs_slideNames, .ref qs_pictures, .ref qs_heats, .ref qs_after, .ref qs_hearerNames, .ref qs_needs, .ref qs_likes, .ref qs_hates, .ref qs_near])), (qs_needs, eI G 8 qs_needs_c), (qs_likes, eI G 8 qs_likes_c), (qs_hates, eI G 8 qs_hates_c), (qs_near, eI G 8 qs_near_c), (qa, .inr (7, [.int qa_hour, .int qa_heat, .int qa_black, .int qa_so, .int qa_cracked, .int qa_behind, .int qa_allSighs, .int qa_seed, .ref qa_pictures, .ref qa_shown, .ref qa_sighed]))] ∧ ((-1) ≤ r_x.toInt ∧ r_x.toInt ≤ 2147483647)) := by
  refine Ci.ofQ (by decide) (Nat.le_of_ble_eq_true rfl) ?_
  intro p e s m below meth c ls A args Q hQ B hw hl
  have C : CallFix p m c cX6_findMoved 10 s args gw "LanternState$Search" := B.1
  have hl : lv_has ls 10 [(0, .ref qf), (1, .ref qs), (2, .ref qa), (3, .int a1)] := hl
  refine lv_iconst (v := 1) C.1 C.2.1 dX6_findMoved_0 (by decide) ?_
  refine lv_aload_n C.1 C.2.1 dX6_findMoved_1 rfl (lv_at hl 1 rfl) ?_
  refine x_get C hw iwX5 4 rfl 1 rfl 1 (by decide) kw153 rfl dX6_findMoved_2 ?_
  refine lv_ishl C.1 C.2.1 dX6_findMoved_5 (x_genP (fun z : Int32 => 1 ≤ z.toInt ∧ z.toInt ≤ 256) (i_shl1 (by omega) (by omega)) (fun v1 hv1 => ?_))
  refine lv_iconst (v := 1) C.1 C.2.1 dX6_findMoved_6 (by decide) ?_
  refine lv_isub C.1 C.2.1 dX6_findMoved_7 (x_genP (fun z : Int32 => z.toInt = v1.toInt - 1) (i_sub (X := v1.toInt) (Y := 1) rfl rfl (by omega) (by omega)) (fun v2 hv2 => ?_))
  refine lv_istore (lv' := [(4, .int v2), (0, .ref qf), (1, .ref qs), (2, .ref qa), (3, .int a1)]) C.1 C.2.1 dX6_findMoved_8 hl (by decide) rfl (fun ls hl => ?_)
  refine lv_aload_n C.1 C.2.1 dX6_findMoved_10 rfl (lv_at hl 2 rfl) ?_
  refine lv_iload_n C.1 C.2.1 dX6_findMoved_11 rfl (lv_at hl 4 rfl) ?_
  refine lv_iconst (v := 0) C.1 C.2.1 dX6_findMoved_12 (by decide) ?_
  refine x_calliV (As := [.int a1, .int 0]) (rest := []) (wr := [(qf, .inr (5, [.ref qf_bestPath, .int qf_bestSize, .int qf_bestPassed, .ref qf_path, .int qf_passing, .int qf_picture, .int qf_behind])), (qs_near, eI G 8 qs_near_c), (qa, .inr (7, [.int qa_hour, .int qa_heat, .int qa_black, .int qa_so, .int qa_cracked, .int qa_behind, .int qa_allSighs, .int qa_seed, .ref qa_pictures, .ref qa_shown, .ref qa_sighed]))]) C hw (s_X5_ownSighers qs a1 0 qs_slides qs_hearers qs_nears qs_lines qs_pass qs_spread qs_lamp qs_behind qs_settingsTold qs_slideNames qs_pictures qs_heats qs_after qs_hearerNames qs_needs qs_likes qs_hates qs_near qs_needs_c qs_likes_c qs_hates_c (by omega) (by omega)) mwX5_ownSighers kw845 [1, 2, 3, 4] [0, 5, 6] rfl rfl rfl rfl (by decide) 0 rfl rfl rfl rfl hl.1 rfl (Nat.le_of_ble_eq_true rfl) ⟨(Nat.le_of_ble_eq_true rfl), (Nat.le_of_ble_eq_true rfl)⟩ ⟨(Nat.le_of_ble_eq_true rfl), (Nat.le_of_ble_eq_true rfl)⟩ dX6_findMoved_13 (fun r3 u9 H locs hp9 hw => ?_)
  obtain ⟨x4, rfl, rfl⟩ := hp9
  have hw : Wd G s A [(qf, .inr (5, [.ref qf_bestPath, .int qf_bestSize, .int qf_bestPassed, .ref qf_path, .int qf_passing, .int qf_picture, .int qf_behind])), (qs_near, eI G 8 qs_near_c), (qa, .inr (7, [.int qa_hour, .int qa_heat, .int qa_black, .int qa_so, .int qa_cracked, .int qa_behind, .int qa_allSighs, .int qa_seed, .ref qa_pictures, .ref qa_shown, .ref qa_sighed])), (qs, .inr (4, [.int qs_slides, .int qs_hearers, .int qs_nears, .int qs_lines, .int qs_pass, .int qs_spread, .int qs_lamp, .int qs_behind, .int qs_settingsTold, .ref qs_slideNames, .ref qs_pictures, .ref qs_heats, .ref qs_after, .ref qs_hearerNames, .ref qs_needs, .ref qs_likes, .ref qs_hates, .ref qs_near])), (qs_needs, eI G 8 qs_needs_c), (qs_likes, eI G 8 qs_likes_c), (qs_hates, eI G 8 qs_hates_c)] H _ := hw
  refine lv_istore (lv' := [(5, .int r3), (4, .int v2), (0, .ref qf), (1, .ref qs), (2, .ref qa), (3, .int a1)]) C.1 C.2.1 dX6_findMoved_16 hl (by decide) rfl (fun ls hl => ?_)
  refine lv_aload_n C.1 C.2.1 dX6_findMoved_18 rfl (lv_at hl 3 rfl) ?_
  refine lv_iload_n C.1 C.2.1 dX6_findMoved_19 rfl (lv_at hl 5 rfl) ?_
  refine lv_iload C.1 C.2.1 dX6_findMoved_20 (lv_at hl 1 rfl) ?_
  refine x_calliV (As := [.int a1, .int v2]) (rest := []) (wr := [(qf, .inr (5, [.ref qf_bestPath, .int qf_bestSize, .int qf_bestPassed, .ref qf_path, .int qf_passing, .int qf_picture, .int qf_behind])), (qs_near, eI G 8 qs_near_c), (qa, .inr (7, [.int qa_hour, .int qa_heat, .int qa_black, .int qa_so, .int qa_cracked, .int qa_behind, .int qa_allSighs, .int qa_seed, .ref qa_pictures, .ref qa_shown, .ref qa_sighed]))]) C hw (s_X5_ownSighers qs a1 v2 qs_slides qs_hearers qs_nears qs_lines qs_pass qs_spread qs_lamp qs_behind qs_settingsTold qs_slideNames qs_pictures qs_heats qs_after qs_hearerNames qs_needs qs_likes qs_hates qs_near qs_needs_c qs_likes_c qs_hates_c (by omega) (by omega)) mwX5_ownSighers kw845 [3, 4, 5, 6] [0, 1, 2] rfl rfl rfl rfl (by decide) 0 rfl rfl rfl rfl hl.1 rfl (Nat.le_of_ble_eq_true rfl) ⟨(Nat.le_of_ble_eq_true rfl), (Nat.le_of_ble_eq_true rfl)⟩ ⟨(Nat.le_of_ble_eq_true rfl), (Nat.le_of_ble_eq_true rfl)⟩ dX6_findMoved_22 (fun r5 u9 H locs hp9 hw => ?_)
  obtain ⟨x6, rfl, rfl⟩ := hp9
  have hw : Wd G s A [(qf, .inr (5, [.ref qf_bestPath, .int qf_bestSize, .int qf_bestPassed, .ref qf_path, .int qf_passing, .int qf_picture, .int qf_behind])), (qs_near, eI G 8 qs_near_c), (qa, .inr (7, [.int qa_hour, .int qa_heat, .int qa_black, .int qa_so, .int qa_cracked, .int qa_behind, .int qa_allSighs, .int qa_seed, .ref qa_pictures, .ref qa_shown, .ref qa_sighed])), (qs, .inr (4, [.int qs_slides, .int qs_hearers, .int qs_nears, .int qs_lines, .int qs_pass, .int qs_spread, .int qs_lamp, .int qs_behind, .int qs_settingsTold, .ref qs_slideNames, .ref qs_pictures, .ref qs_heats, .ref qs_after, .ref qs_hearerNames, .ref qs_needs, .ref qs_likes, .ref qs_hates, .ref qs_near])), (qs_needs, eI G 8 qs_needs_c), (qs_likes, eI G 8 qs_likes_c), (qs_hates, eI G 8 qs_hates_c)] H _ := hw
  refine lv_istore (lv' := [(6, .int r5), (5, .int r3), (4, .int v2), (0, .ref qf), (1, .ref qs), (2, .ref qa), (3, .int a1)]) C.1 C.2.1 dX6_findMoved_25 hl (by decide) rfl (fun ls hl => ?_)
  refine lv_iconst (v := (-1)) C.1 C.2.1 dX6_findMoved_27 (by decide) ?_
  refine lv_istore (lv' := [(7, .int (-1)), (6, .int r5), (5, .int r3), (4, .int v2), (0, .ref qf), (1, .ref qs), (2, .ref qa), (3, .int a1)]) C.1 C.2.1 dX6_findMoved_28 hl (by decide) rfl (fun ls hl => ?_)
  refine lv_iconst (v := 0) C.1 C.2.1 dX6_findMoved_30 (by decide) ?_
  refine lv_istore (lv' := [(8, .int 0), (7, .int (-1)), (6, .int r5), (5, .int r3), (4, .int v2), (0, .ref qf), (1, .ref qs), (2, .ref qa), (3, .int a1)]) C.1 C.2.1 dX6_findMoved_31 hl (by decide) rfl (fun ls hl => ?_)
  have loopJ117 : ∀ (n9 : Nat) (j115 : Int32) (j116 : Int32), (2147483647 - j115.toInt).toNat < n9 → (0 ≤ j115.toInt ∧ j115.toInt ≤ 256) → (-1 ≤ j116.toInt ∧ j116.toInt ≤ 2147483647) → ∀ (H : Heap) (locs : List Loc) (ls : Array Slot), Wd G s A [(qf, .inr (5, [.ref qf_bestPath, .int qf_bestSize, .int qf_bestPassed, .ref qf_path, .int qf_passing, .int qf_picture, .int qf_behind])), (qs_near, eI G 8 qs_near_c), (qa, .inr (7, [.int qa_hour, .int qa_heat, .int qa_black, .int qa_so, .int qa_cracked, .int qa_behind, .int qa_allSighs, .int qa_seed, .ref qa_pictures, .ref qa_shown, .ref qa_sighed])), (qs, .inr (4, [.int qs_slides, .int qs_hearers, .int qs_nears, .int qs_lines, .int qs_pass, .int qs_spread, .int qs_lamp, .int qs_behind, .int qs_settingsTold, .ref qs_slideNames, .ref qs_pictures, .ref qs_heats, .ref qs_after, .ref qs_hearerNames, .ref qs_needs, .ref qs_likes, .ref qs_hates, .ref qs_near])), (qs_needs, eI G 8 qs_needs_c), (qs_likes, eI G 8 qs_likes_c), (qs_hates, eI G 8 qs_hates_c)] H locs → lv_has ls 10 [(8, .int j115), (7, .int j116), (6, .int r5), (5, .int r3), (4, .int v2), (1, .ref qs), (2, .ref qa)] → W p l e (rmD 2 0 0) s m args below meth c H locs 0 0 Q (F0 m 33 ls []) := by
    intro n9
    induction n9 with
    | zero => intro j115 j116 h9; exact absurd h9 (Nat.not_lt_zero _)
    | succ n9 ihJ117 =>
      intro j115 j116 h9J117 hJ117_0 hJ117_1 H locs ls hw hl
      have hbj115 := i_bd j115
      refine lv_iload C.1 C.2.1 dX6_findMoved_33 (lv_at hl 0 rfl) ?_
      refine lv_iload C.1 C.2.1 dX6_findMoved_35 (lv_at hl 4 rfl) ?_
      refine lv_icmp_gt (tgt := 105) C.1 C.2.1 dX6_findMoved_37 (by decide) (fun c146 => ?_) (fun c146 => ?_)
      · skip
        have c146 : v2.toInt < j115.toInt := i_ltT (X := v2.toInt) (Y := j115.toInt) rfl rfl c146
        refine lv_iload C.1 C.2.1 dX6_findMoved_105 (lv_at hl 1 rfl) ?_
        have hw := hw.sub (w' := [(qf, .inr (5, [.ref qf_bestPath, .int qf_bestSize, .int qf_bestPassed, .ref qf_path, .int qf_passing, .int qf_picture, .int qf_behind])), (qs, .inr (4, [.int qs_slides, .int qs_hearers, .int qs_nears, .int qs_lines, .int qs_pass, .int qs_spread, .int qs_lamp, .int qs_behind, .int qs_settingsTold, .ref qs_slideNames, .ref qs_pictures, .ref qs_heats, .ref qs_after, .ref qs_hearerNames, .ref qs_needs, .ref qs_likes, .ref qs_hates, .ref qs_near])), (qs_needs, eI G 8 qs_needs_c), (qs_likes, eI G 8 qs_likes_c), (qs_hates, eI G 8 qs_hates_c), (qs_near, eI G 8 qs_near_c), (qa, .inr (7, [.int qa_hour, .int qa_heat, .int qa_black, .int qa_so, .int qa_cracked, .int qa_behind, .int qa_allSighs, .int qa_seed, .ref qa_pictures, .ref qa_shown, .ref qa_sighed]))]) [0, 3, 4, 5, 6, 1, 2] rfl rfl
        exact x_retiQ hQ B hw ⟨j116, rfl, rfl, (by omega)⟩ (Nat.le_of_ble_eq_true rfl) (Nat.le_of_ble_eq_true rfl) dX6_findMoved_107
      · skip
        have c146 : j115.toInt ≤ v2.toInt := i_ltF (X := v2.toInt) (Y := j115.toInt) rfl rfl c146
        refine lv_iload C.1 C.2.1 dX6_findMoved_40 (lv_at hl 1 rfl) ?_
        refine lv_iconst (v := (-1)) C.1 C.2.1 dX6_findMoved_42 (by decide) ?_
        have J172 : ∀ (j171 : Int32), (-1 ≤ j171.toInt ∧ j171.toInt ≤ 2147483647) → ∀ (H : Heap) (locs : List Loc) (ls : Array Slot), Wd G s A [(qf, .inr (5, [.ref qf_bestPath, .int qf_bestSize, .int qf_bestPassed, .ref qf_path, .int qf_passing, .int qf_picture, .int qf_behind])), (qs_near, eI G 8 qs_near_c), (qa, .inr (7, [.int qa_hour, .int qa_heat, .int qa_black, .int qa_so, .int qa_cracked, .int qa_behind, .int qa_allSighs, .int qa_seed, .ref qa_pictures, .ref qa_shown, .ref qa_sighed])), (qs, .inr (4, [.int qs_slides, .int qs_hearers, .int qs_nears, .int qs_lines, .int qs_pass, .int qs_spread, .int qs_lamp, .int qs_behind, .int qs_settingsTold, .ref qs_slideNames, .ref qs_pictures, .ref qs_heats, .ref qs_after, .ref qs_hearerNames, .ref qs_needs, .ref qs_likes, .ref qs_hates, .ref qs_near])), (qs_needs, eI G 8 qs_needs_c), (qs_likes, eI G 8 qs_likes_c), (qs_hates, eI G 8 qs_hates_c)] H locs → lv_has ls 10 [(8, .int j115), (7, .int j171), (6, .int r5), (5, .int r3), (4, .int v2), (1, .ref qs), (2, .ref qa)] → W p l e (rmD 2 0 0) s m args below meth c H locs 0 0 Q (F0 m 99 ls []) := by
          intro j171 hJ172_0 H locs ls hw hl
          obtain ⟨v173, ev173⟩ : ∃ z : Int32, j115 + 1 = z := ⟨_, rfl⟩
          have hv173 : v173.toInt = j115.toInt + 1 := by rw [← ev173]; exact i_add rfl rfl (by omega) (by omega)
          refine lv_iinc (v := v173) (lv' := [(8, .int v173), (7, .int j171), (6, .int r5), (5, .int r3), (4, .int v2), (1, .ref qs), (2, .ref qa)]) C.1 C.2.1 dX6_findMoved_99 hl (k := 0) rfl ev173 (by decide) rfl (fun ls hl => ?_)
          refine lv_goto (tgt := 33) C.1 C.2.1 dX6_findMoved_102 (by decide) ?_
          exact ihJ117 v173 j171 (by omega) (by omega) (by omega) _ _ _ hw (lv_sub hl [0, 1, 2, 3, 4, 5, 6] rfl)
        refine lv_icmp_eq (tgt := 62) C.1 C.2.1 dX6_findMoved_43 (by decide) (fun c147 => ?_) (fun c147 => ?_)
        · skip
          have c147 : j116.toInt = (-1) := i_eqT (X := j116.toInt) (Y := (-1)) rfl rfl c147
          have bc147_j116 := i_bd j116
          refine lv_aload_n C.1 C.2.1 dX6_findMoved_62 rfl (lv_at hl 6 rfl) ?_
          refine x_get C hw iwX8 7 rfl 2 rfl 5 (by decide) kw257 rfl dX6_findMoved_63 ?_
          refine lv_iload C.1 C.2.1 dX6_findMoved_66 (lv_at hl 0 rfl) ?_
          refine lv_ixor C.1 C.2.1 dX6_findMoved_68 (x_gen (fun v174 => ?_))
          refine lv_istore (lv' := [(9, .int v174), (8, .int j115), (7, .int j116), (6, .int r5), (5, .int r3), (4, .int v2), (1, .ref qs), (2, .ref qa)]) C.1 C.2.1 dX6_findMoved_69 hl (by decide) rfl (fun ls hl => ?_)
          refine lv_aload_n C.1 C.2.1 dX6_findMoved_71 rfl (lv_at hl 6 rfl) ?_
          refine lv_aload_n C.1 C.2.1 dX6_findMoved_72 rfl (lv_at hl 6 rfl) ?_
          refine lv_iload C.1 C.2.1 dX6_findMoved_73 (lv_at hl 4 rfl) ?_
          refine lv_iload C.1 C.2.1 dX6_findMoved_75 (lv_at hl 0 rfl) ?_
          refine lv_iconst (v := (-1)) C.1 C.2.1 dX6_findMoved_77 (by decide) ?_
          refine lv_ixor C.1 C.2.1 dX6_findMoved_78 (x_gen (fun v175 => ?_))
          refine lv_iand C.1 C.2.1 dX6_findMoved_79 (x_gen (fun v176 => ?_))
          refine lv_iload C.1 C.2.1 dX6_findMoved_80 (lv_at hl 3 rfl) ?_
          refine lv_iload C.1 C.2.1 dX6_findMoved_82 (lv_at hl 0 rfl) ?_
          refine lv_iand C.1 C.2.1 dX6_findMoved_84 (x_gen (fun v177 => ?_))
          refine lv_ior C.1 C.2.1 dX6_findMoved_85 (x_gen (fun v178 => ?_))
          refine x_calliV (As := [.int v178]) (rest := [.ref qs]) (wr := [(qf, .inr (5, [.ref qf_bestPath, .int qf_bestSize, .int qf_bestPassed, .ref qf_path, .int qf_passing, .int qf_picture, .int qf_behind])), (qa, .inr (7, [.int qa_hour, .int qa_heat, .int qa_black, .int qa_so, .int qa_cracked, .int qa_behind, .int qa_allSighs, .int qa_seed, .ref qa_pictures, .ref qa_shown, .ref qa_sighed])), (qs_needs, eI G 8 qs_needs_c), (qs_likes, eI G 8 qs_likes_c), (qs_hates, eI G 8 qs_hates_c)]) C hw (s_X5_spreadFrom qs v178 qs_slides qs_hearers qs_nears qs_lines qs_pass qs_spread qs_lamp qs_behind qs_settingsTold qs_slideNames qs_pictures qs_heats qs_after qs_hearerNames qs_needs qs_likes qs_hates qs_near qs_near_c (by omega) (by omega)) mwX5_spreadFrom kw847 [3, 1] [0, 2, 4, 5, 6] rfl rfl rfl rfl (by decide) 0 rfl rfl rfl rfl hl.1 rfl (Nat.le_of_ble_eq_true rfl) ⟨(Nat.le_of_ble_eq_true rfl), (Nat.le_of_ble_eq_true rfl)⟩ ⟨(Nat.le_of_ble_eq_true rfl), (Nat.le_of_ble_eq_true rfl)⟩ dX6_findMoved_86 (fun r179 u9 H locs hp9 hw => ?_)
          obtain ⟨x180, rfl, rfl⟩ := hp9
          have hw : Wd G s A [(qf, .inr (5, [.ref qf_bestPath, .int qf_bestSize, .int qf_bestPassed, .ref qf_path, .int qf_passing, .int qf_picture, .int qf_behind])), (qa, .inr (7, [.int qa_hour, .int qa_heat, .int qa_black, .int qa_so, .int qa_cracked, .int qa_behind, .int qa_allSighs, .int qa_seed, .ref qa_pictures, .ref qa_shown, .ref qa_sighed])), (qs_needs, eI G 8 qs_needs_c), (qs_likes, eI G 8 qs_likes_c), (qs_hates, eI G 8 qs_hates_c), (qs, .inr (4, [.int qs_slides, .int qs_hearers, .int qs_nears, .int qs_lines, .int qs_pass, .int qs_spread, .int qs_lamp, .int qs_behind, .int qs_settingsTold, .ref qs_slideNames, .ref qs_pictures, .ref qs_heats, .ref qs_after, .ref qs_hearerNames, .ref qs_needs, .ref qs_likes, .ref qs_hates, .ref qs_near])), (qs_near, eI G 8 qs_near_c)] H _ := hw
          refine x_calliV (As := [.int r179]) (rest := []) (wr := [(qf, .inr (5, [.ref qf_bestPath, .int qf_bestSize, .int qf_bestPassed, .ref qf_path, .int qf_passing, .int qf_picture, .int qf_behind])), (qa, .inr (7, [.int qa_hour, .int qa_heat, .int qa_black, .int qa_so, .int qa_cracked, .int qa_behind, .int qa_allSighs, .int qa_seed, .ref qa_pictures, .ref qa_shown, .ref qa_sighed])), (qs_needs, eI G 8 qs_needs_c), (qs_likes, eI G 8 qs_likes_c), (qs_hates, eI G 8 qs_hates_c), (qs_near, eI G 8 qs_near_c)]) C hw (s_X5_isEnough qs r179 qs_slides qs_hearers qs_nears qs_lines qs_pass qs_spread qs_lamp qs_behind qs_settingsTold qs_slideNames qs_pictures qs_heats qs_after qs_hearerNames qs_needs qs_likes qs_hates qs_near (by omega) (by omega)) mwX5_isEnough kw823 [5] [0, 1, 2, 3, 4, 6] rfl rfl rfl rfl (by decide) 0 rfl rfl rfl rfl hl.1 rfl (Nat.le_of_ble_eq_true rfl) ⟨(Nat.le_of_ble_eq_true rfl), (Nat.le_of_ble_eq_true rfl)⟩ ⟨(Nat.le_of_ble_eq_true rfl), (Nat.le_of_ble_eq_true rfl)⟩ dX6_findMoved_89 (fun r181 u9 H locs hp9 hw => ?_)
          rcases hp9 with ⟨rfl, rfl⟩ | ⟨rfl, rfl⟩
          · skip
            have hw : Wd G s A [(qf, .inr (5, [.ref qf_bestPath, .int qf_bestSize, .int qf_bestPassed, .ref qf_path, .int qf_passing, .int qf_picture, .int qf_behind])), (qa, .inr (7, [.int qa_hour, .int qa_heat, .int qa_black, .int qa_so, .int qa_cracked, .int qa_behind, .int qa_allSighs, .int qa_seed, .ref qa_pictures, .ref qa_shown, .ref qa_sighed])), (qs_needs, eI G 8 qs_needs_c), (qs_likes, eI G 8 qs_likes_c), (qs_hates, eI G 8 qs_hates_c), (qs_near, eI G 8 qs_near_c), (qs, .inr (4, [.int qs_slides, .int qs_hearers, .int qs_nears, .int qs_lines, .int qs_pass, .int qs_spread, .int qs_lamp, .int qs_behind, .int qs_settingsTold, .ref qs_slideNames, .ref qs_pictures, .ref qs_heats, .ref qs_after, .ref qs_hearerNames, .ref qs_needs, .ref qs_likes, .ref qs_hates, .ref qs_near]))] H _ := hw
            refine lv_if_eq (tgt := 99) C.1 C.2.1 dX6_findMoved_92 (by decide) (fun _ => ?_) (fun h9 => absurd (by decide) h9)
            have hw := hw.sub (w' := [(qf, .inr (5, [.ref qf_bestPath, .int qf_bestSize, .int qf_bestPassed, .ref qf_path, .int qf_passing, .int qf_picture, .int qf_behind])), (qs_near, eI G 8 qs_near_c), (qa, .inr (7, [.int qa_hour, .int qa_heat, .int qa_black, .int qa_so, .int qa_cracked, .int qa_behind, .int qa_allSighs, .int qa_seed, .ref qa_pictures, .ref qa_shown, .ref qa_sighed])), (qs, .inr (4, [.int qs_slides, .int qs_hearers, .int qs_nears, .int qs_lines, .int qs_pass, .int qs_spread, .int qs_lamp, .int qs_behind, .int qs_settingsTold, .ref qs_slideNames, .ref qs_pictures, .ref qs_heats, .ref qs_after, .ref qs_hearerNames, .ref qs_needs, .ref qs_likes, .ref qs_hates, .ref qs_near])), (qs_needs, eI G 8 qs_needs_c), (qs_likes, eI G 8 qs_likes_c), (qs_hates, eI G 8 qs_hates_c)]) [0, 5, 1, 6, 2, 3, 4] rfl rfl
            exact J172 j116  (by omega) _ _ _ hw (lv_sub hl [1, 2, 3, 4, 5, 6, 7] rfl)
          · skip
            have hw : Wd G s A [(qf, .inr (5, [.ref qf_bestPath, .int qf_bestSize, .int qf_bestPassed, .ref qf_path, .int qf_passing, .int qf_picture, .int qf_behind])), (qa, .inr (7, [.int qa_hour, .int qa_heat, .int qa_black, .int qa_so, .int qa_cracked, .int qa_behind, .int qa_allSighs, .int qa_seed, .ref qa_pictures, .ref qa_shown, .ref qa_sighed])), (qs_needs, eI G 8 qs_needs_c), (qs_likes, eI G 8 qs_likes_c), (qs_hates, eI G 8 qs_hates_c), (qs_near, eI G 8 qs_near_c), (qs, .inr (4, [.int qs_slides, .int qs_hearers, .int qs_nears, .int qs_lines, .int qs_pass, .int qs_spread, .int qs_lamp, .int qs_behind, .int qs_settingsTold, .ref qs_slideNames, .ref qs_pictures, .ref qs_heats, .ref qs_after, .ref qs_hearerNames, .ref qs_needs, .ref qs_likes, .ref qs_hates, .ref qs_near]))] H _ := hw
            refine lv_if_eq (tgt := 99) C.1 C.2.1 dX6_findMoved_92 (by decide) (fun h9 => absurd h9 (by decide)) (fun _ => ?_)
            refine lv_iload C.1 C.2.1 dX6_findMoved_95 (lv_at hl 1 rfl) ?_
            refine lv_istore (lv' := [(7, .int j115), (9, .int v174), (8, .int j115), (6, .int r5), (5, .int r3), (4, .int v2), (1, .ref qs), (2, .ref qa)]) C.1 C.2.1 dX6_findMoved_97 hl (by decide) rfl (fun ls hl => ?_)
            have hw := hw.sub (w' := [(qf, .inr (5, [.ref qf_bestPath, .int qf_bestSize, .int qf_bestPassed, .ref qf_path, .int qf_passing, .int qf_picture, .int qf_behind])), (qs_near, eI G 8 qs_near_c), (qa, .inr (7, [.int qa_hour, .int qa_heat, .int qa_black, .int qa_so, .int qa_cracked, .int qa_behind, .int qa_allSighs, .int qa_seed, .ref qa_pictures, .ref qa_shown, .ref qa_sighed])), (qs, .inr (4, [.int qs_slides, .int qs_hearers, .int qs_nears, .int qs_lines, .int qs_pass, .int qs_spread, .int qs_lamp, .int qs_behind, .int qs_settingsTold, .ref qs_slideNames, .ref qs_pictures, .ref qs_heats, .ref qs_after, .ref qs_hearerNames, .ref qs_needs, .ref qs_likes, .ref qs_hates, .ref qs_near])), (qs_needs, eI G 8 qs_needs_c), (qs_likes, eI G 8 qs_likes_c), (qs_hates, eI G 8 qs_hates_c)]) [0, 5, 1, 6, 2, 3, 4] rfl rfl
            exact J172 j115  (by omega) _ _ _ hw (lv_sub hl [2, 0, 3, 4, 5, 6, 7] rfl)
        · skip
          have c147 : j116.toInt ≠ (-1) := i_eqF (X := j116.toInt) (Y := (-1)) rfl rfl c147
          have bc147_j116 := i_bd j116
          refine lv_iload C.1 C.2.1 dX6_findMoved_46 (lv_at hl 0 rfl) ?_
          refine x_calliS (As := [.int j115]) (rest := []) (wr := [(qf, .inr (5, [.ref qf_bestPath, .int qf_bestSize, .int qf_bestPassed, .ref qf_path, .int qf_passing, .int qf_picture, .int qf_behind])), (qs_near, eI G 8 qs_near_c), (qa, .inr (7, [.int qa_hour, .int qa_heat, .int qa_black, .int qa_so, .int qa_cracked, .int qa_behind, .int qa_allSighs, .int qa_seed, .ref qa_pictures, .ref qa_shown, .ref qa_sighed])), (qs, .inr (4, [.int qs_slides, .int qs_hearers, .int qs_nears, .int qs_lines, .int qs_pass, .int qs_spread, .int qs_lamp, .int qs_behind, .int qs_settingsTold, .ref qs_slideNames, .ref qs_pictures, .ref qs_heats, .ref qs_after, .ref qs_hearerNames, .ref qs_needs, .ref qs_likes, .ref qs_hates, .ref qs_near])), (qs_needs, eI G 8 qs_needs_c), (qs_likes, eI G 8 qs_likes_c), (qs_hates, eI G 8 qs_hates_c)]) C hw (s_J6_bitCount_0f7a4 j115) mwJ6_bitCount_0f7a4 kw846 [] [0, 1, 2, 3, 4, 5, 6] rfl rfl rfl rfl (by decide) rfl hl.1 rfl (Nat.le_of_ble_eq_true rfl) ⟨(Nat.le_of_ble_eq_true rfl), (Nat.le_of_ble_eq_true rfl)⟩ ⟨(Nat.le_of_ble_eq_true rfl), (Nat.le_of_ble_eq_true rfl)⟩ dX6_findMoved_48 (fun r182 u9 H locs hp9 hw => ?_)
          obtain ⟨x183, rfl, rfl, hf184⟩ := hp9
          have hw : Wd G s A [(qf, .inr (5, [.ref qf_bestPath, .int qf_bestSize, .int qf_bestPassed, .ref qf_path, .int qf_passing, .int qf_picture, .int qf_behind])), (qs_near, eI G 8 qs_near_c), (qa, .inr (7, [.int qa_hour, .int qa_heat, .int qa_black, .int qa_so, .int qa_cracked, .int qa_behind, .int qa_allSighs, .int qa_seed, .ref qa_pictures, .ref qa_shown, .ref qa_sighed])), (qs, .inr (4, [.int qs_slides, .int qs_hearers, .int qs_nears, .int qs_lines, .int qs_pass, .int qs_spread, .int qs_lamp, .int qs_behind, .int qs_settingsTold, .ref qs_slideNames, .ref qs_pictures, .ref qs_heats, .ref qs_after, .ref qs_hearerNames, .ref qs_needs, .ref qs_likes, .ref qs_hates, .ref qs_near])), (qs_needs, eI G 8 qs_needs_c), (qs_likes, eI G 8 qs_likes_c), (qs_hates, eI G 8 qs_hates_c)] H _ := hw
          refine lv_iload C.1 C.2.1 dX6_findMoved_51 (lv_at hl 1 rfl) ?_
          refine x_calliS (As := [.int j116]) (rest := [.int r182]) (wr := [(qf, .inr (5, [.ref qf_bestPath, .int qf_bestSize, .int qf_bestPassed, .ref qf_path, .int qf_passing, .int qf_picture, .int qf_behind])), (qs_near, eI G 8 qs_near_c), (qa, .inr (7, [.int qa_hour, .int qa_heat, .int qa_black, .int qa_so, .int qa_cracked, .int qa_behind, .int qa_allSighs, .int qa_seed, .ref qa_pictures, .ref qa_shown, .ref qa_sighed])), (qs, .inr (4, [.int qs_slides, .int qs_hearers, .int qs_nears, .int qs_lines, .int qs_pass, .int qs_spread, .int qs_lamp, .int qs_behind, .int qs_settingsTold, .ref qs_slideNames, .ref qs_pictures, .ref qs_heats, .ref qs_after, .ref qs_hearerNames, .ref qs_needs, .ref qs_likes, .ref qs_hates, .ref qs_near])), (qs_needs, eI G 8 qs_needs_c), (qs_likes, eI G 8 qs_likes_c), (qs_hates, eI G 8 qs_hates_c)]) C hw (s_J6_bitCount_0f7a4 j116) mwJ6_bitCount_0f7a4 kw846 [] [0, 1, 2, 3, 4, 5, 6] rfl rfl rfl rfl (by decide) rfl hl.1 rfl (Nat.le_of_ble_eq_true rfl) ⟨(Nat.le_of_ble_eq_true rfl), (Nat.le_of_ble_eq_true rfl)⟩ ⟨(Nat.le_of_ble_eq_true rfl), (Nat.le_of_ble_eq_true rfl)⟩ dX6_findMoved_53 (fun r185 u9 H locs hp9 hw => ?_)
          obtain ⟨x186, rfl, rfl, hf187⟩ := hp9
          have hw : Wd G s A [(qf, .inr (5, [.ref qf_bestPath, .int qf_bestSize, .int qf_bestPassed, .ref qf_path, .int qf_passing, .int qf_picture, .int qf_behind])), (qs_near, eI G 8 qs_near_c), (qa, .inr (7, [.int qa_hour, .int qa_heat, .int qa_black, .int qa_so, .int qa_cracked, .int qa_behind, .int qa_allSighs, .int qa_seed, .ref qa_pictures, .ref qa_shown, .ref qa_sighed])), (qs, .inr (4, [.int qs_slides, .int qs_hearers, .int qs_nears, .int qs_lines, .int qs_pass, .int qs_spread, .int qs_lamp, .int qs_behind, .int qs_settingsTold, .ref qs_slideNames, .ref qs_pictures, .ref qs_heats, .ref qs_after, .ref qs_hearerNames, .ref qs_needs, .ref qs_likes, .ref qs_hates, .ref qs_near])), (qs_needs, eI G 8 qs_needs_c), (qs_likes, eI G 8 qs_likes_c), (qs_hates, eI G 8 qs_hates_c)] H _ := hw
          refine lv_icmp_lt (tgt := 62) C.1 C.2.1 dX6_findMoved_56 (by decide) (fun c188 => ?_) (fun c188 => ?_)
          · skip
            have c188 : r182.toInt < r185.toInt := i_ltT (X := r182.toInt) (Y := r185.toInt) rfl rfl c188
            refine lv_aload_n C.1 C.2.1 dX6_findMoved_62 rfl (lv_at hl 6 rfl) ?_
            refine x_get C hw iwX8 7 rfl 2 rfl 5 (by decide) kw257 rfl dX6_findMoved_63 ?_
            refine lv_iload C.1 C.2.1 dX6_findMoved_66 (lv_at hl 0 rfl) ?_
            refine lv_ixor C.1 C.2.1 dX6_findMoved_68 (x_gen (fun v189 => ?_))
            refine lv_istore (lv' := [(9, .int v189), (8, .int j115), (7, .int j116), (6, .int r5), (5, .int r3), (4, .int v2), (1, .ref qs), (2, .ref qa)]) C.1 C.2.1 dX6_findMoved_69 hl (by decide) rfl (fun ls hl => ?_)
            refine lv_aload_n C.1 C.2.1 dX6_findMoved_71 rfl (lv_at hl 6 rfl) ?_
            refine lv_aload_n C.1 C.2.1 dX6_findMoved_72 rfl (lv_at hl 6 rfl) ?_
            refine lv_iload C.1 C.2.1 dX6_findMoved_73 (lv_at hl 4 rfl) ?_
            refine lv_iload C.1 C.2.1 dX6_findMoved_75 (lv_at hl 0 rfl) ?_
            refine lv_iconst (v := (-1)) C.1 C.2.1 dX6_findMoved_77 (by decide) ?_
            refine lv_ixor C.1 C.2.1 dX6_findMoved_78 (x_gen (fun v190 => ?_))
            refine lv_iand C.1 C.2.1 dX6_findMoved_79 (x_gen (fun v191 => ?_))
            refine lv_iload C.1 C.2.1 dX6_findMoved_80 (lv_at hl 3 rfl) ?_
            refine lv_iload C.1 C.2.1 dX6_findMoved_82 (lv_at hl 0 rfl) ?_
            refine lv_iand C.1 C.2.1 dX6_findMoved_84 (x_gen (fun v192 => ?_))
            refine lv_ior C.1 C.2.1 dX6_findMoved_85 (x_gen (fun v193 => ?_))
            refine x_calliV (As := [.int v193]) (rest := [.ref qs]) (wr := [(qf, .inr (5, [.ref qf_bestPath, .int qf_bestSize, .int qf_bestPassed, .ref qf_path, .int qf_passing, .int qf_picture, .int qf_behind])), (qa, .inr (7, [.int qa_hour, .int qa_heat, .int qa_black, .int qa_so, .int qa_cracked, .int qa_behind, .int qa_allSighs, .int qa_seed, .ref qa_pictures, .ref qa_shown, .ref qa_sighed])), (qs_needs, eI G 8 qs_needs_c), (qs_likes, eI G 8 qs_likes_c), (qs_hates, eI G 8 qs_hates_c)]) C hw (s_X5_spreadFrom qs v193 qs_slides qs_hearers qs_nears qs_lines qs_pass qs_spread qs_lamp qs_behind qs_settingsTold qs_slideNames qs_pictures qs_heats qs_after qs_hearerNames qs_needs qs_likes qs_hates qs_near qs_near_c (by omega) (by omega)) mwX5_spreadFrom kw847 [3, 1] [0, 2, 4, 5, 6] rfl rfl rfl rfl (by decide) 0 rfl rfl rfl rfl hl.1 rfl (Nat.le_of_ble_eq_true rfl) ⟨(Nat.le_of_ble_eq_true rfl), (Nat.le_of_ble_eq_true rfl)⟩ ⟨(Nat.le_of_ble_eq_true rfl), (Nat.le_of_ble_eq_true rfl)⟩ dX6_findMoved_86 (fun r194 u9 H locs hp9 hw => ?_)
            obtain ⟨x195, rfl, rfl⟩ := hp9
            have hw : Wd G s A [(qf, .inr (5, [.ref qf_bestPath, .int qf_bestSize, .int qf_bestPassed, .ref qf_path, .int qf_passing, .int qf_picture, .int qf_behind])), (qa, .inr (7, [.int qa_hour, .int qa_heat, .int qa_black, .int qa_so, .int qa_cracked, .int qa_behind, .int qa_allSighs, .int qa_seed, .ref qa_pictures, .ref qa_shown, .ref qa_sighed])), (qs_needs, eI G 8 qs_needs_c), (qs_likes, eI G 8 qs_likes_c), (qs_hates, eI G 8 qs_hates_c), (qs, .inr (4, [.int qs_slides, .int qs_hearers, .int qs_nears, .int qs_lines, .int qs_pass, .int qs_spread, .int qs_lamp, .int qs_behind, .int qs_settingsTold, .ref qs_slideNames, .ref qs_pictures, .ref qs_heats, .ref qs_after, .ref qs_hearerNames, .ref qs_needs, .ref qs_likes, .ref qs_hates, .ref qs_near])), (qs_near, eI G 8 qs_near_c)] H _ := hw
            refine x_calliV (As := [.int r194]) (rest := []) (wr := [(qf, .inr (5, [.ref qf_bestPath, .int qf_bestSize, .int qf_bestPassed, .ref qf_path, .int qf_passing, .int qf_picture, .int qf_behind])), (qa, .inr (7, [.int qa_hour, .int qa_heat, .int qa_black, .int qa_so, .int qa_cracked, .int qa_behind, .int qa_allSighs, .int qa_seed, .ref qa_pictures, .ref qa_shown, .ref qa_sighed])), (qs_needs, eI G 8 qs_needs_c), (qs_likes, eI G 8 qs_likes_c), (qs_hates, eI G 8 qs_hates_c), (qs_near, eI G 8 qs_near_c)]) C hw (s_X5_isEnough qs r194 qs_slides qs_hearers qs_nears qs_lines qs_pass qs_spread qs_lamp qs_behind qs_settingsTold qs_slideNames qs_pictures qs_heats qs_after qs_hearerNames qs_needs qs_likes qs_hates qs_near (by omega) (by omega)) mwX5_isEnough kw823 [5] [0, 1, 2, 3, 4, 6] rfl rfl rfl rfl (by decide) 0 rfl rfl rfl rfl hl.1 rfl (Nat.le_of_ble_eq_true rfl) ⟨(Nat.le_of_ble_eq_true rfl), (Nat.le_of_ble_eq_true rfl)⟩ ⟨(Nat.le_of_ble_eq_true rfl), (Nat.le_of_ble_eq_true rfl)⟩ dX6_findMoved_89 (fun r196 u9 H locs hp9 hw => ?_)
            rcases hp9 with ⟨rfl, rfl⟩ | ⟨rfl, rfl⟩
            · skip
              have hw : Wd G s A [(qf, .inr (5, [.ref qf_bestPath, .int qf_bestSize, .int qf_bestPassed, .ref qf_path, .int qf_passing, .int qf_picture, .int qf_behind])), (qa, .inr (7, [.int qa_hour, .int qa_heat, .int qa_black, .int qa_so, .int qa_cracked, .int qa_behind, .int qa_allSighs, .int qa_seed, .ref qa_pictures, .ref qa_shown, .ref qa_sighed])), (qs_needs, eI G 8 qs_needs_c), (qs_likes, eI G 8 qs_likes_c), (qs_hates, eI G 8 qs_hates_c), (qs_near, eI G 8 qs_near_c), (qs, .inr (4, [.int qs_slides, .int qs_hearers, .int qs_nears, .int qs_lines, .int qs_pass, .int qs_spread, .int qs_lamp, .int qs_behind, .int qs_settingsTold, .ref qs_slideNames, .ref qs_pictures, .ref qs_heats, .ref qs_after, .ref qs_hearerNames, .ref qs_needs, .ref qs_likes, .ref qs_hates, .ref qs_near]))] H _ := hw
              refine lv_if_eq (tgt := 99) C.1 C.2.1 dX6_findMoved_92 (by decide) (fun _ => ?_) (fun h9 => absurd (by decide) h9)
              have hw := hw.sub (w' := [(qf, .inr (5, [.ref qf_bestPath, .int qf_bestSize, .int qf_bestPassed, .ref qf_path, .int qf_passing, .int qf_picture, .int qf_behind])), (qs_near, eI G 8 qs_near_c), (qa, .inr (7, [.int qa_hour, .int qa_heat, .int qa_black, .int qa_so, .int qa_cracked, .int qa_behind, .int qa_allSighs, .int qa_seed, .ref qa_pictures, .ref qa_shown, .ref qa_sighed])), (qs, .inr (4, [.int qs_slides, .int qs_hearers, .int qs_nears, .int qs_lines, .int qs_pass, .int qs_spread, .int qs_lamp, .int qs_behind, .int qs_settingsTold, .ref qs_slideNames, .ref qs_pictures, .ref qs_heats, .ref qs_after, .ref qs_hearerNames, .ref qs_needs, .ref qs_likes, .ref qs_hates, .ref qs_near])), (qs_needs, eI G 8 qs_needs_c), (qs_likes, eI G 8 qs_likes_c), (qs_hates, eI G 8 qs_hates_c)]) [0, 5, 1, 6, 2, 3, 4] rfl rfl
              exact J172 j116  (by omega) _ _ _ hw (lv_sub hl [1, 2, 3, 4, 5, 6, 7] rfl)
            · skip
              have hw : Wd G s A [(qf, .inr (5, [.ref qf_bestPath, .int qf_bestSize, .int qf_bestPassed, .ref qf_path, .int qf_passing, .int qf_picture, .int qf_behind])), (qa, .inr (7, [.int qa_hour, .int qa_heat, .int qa_black, .int qa_so, .int qa_cracked, .int qa_behind, .int qa_allSighs, .int qa_seed, .ref qa_pictures, .ref qa_shown, .ref qa_sighed])), (qs_needs, eI G 8 qs_needs_c), (qs_likes, eI G 8 qs_likes_c), (qs_hates, eI G 8 qs_hates_c), (qs_near, eI G 8 qs_near_c), (qs, .inr (4, [.int qs_slides, .int qs_hearers, .int qs_nears, .int qs_lines, .int qs_pass, .int qs_spread, .int qs_lamp, .int qs_behind, .int qs_settingsTold, .ref qs_slideNames, .ref qs_pictures, .ref qs_heats, .ref qs_after, .ref qs_hearerNames, .ref qs_needs, .ref qs_likes, .ref qs_hates, .ref qs_near]))] H _ := hw
              refine lv_if_eq (tgt := 99) C.1 C.2.1 dX6_findMoved_92 (by decide) (fun h9 => absurd h9 (by decide)) (fun _ => ?_)
              refine lv_iload C.1 C.2.1 dX6_findMoved_95 (lv_at hl 1 rfl) ?_
              refine lv_istore (lv' := [(7, .int j115), (9, .int v189), (8, .int j115), (6, .int r5), (5, .int r3), (4, .int v2), (1, .ref qs), (2, .ref qa)]) C.1 C.2.1 dX6_findMoved_97 hl (by decide) rfl (fun ls hl => ?_)
              have hw := hw.sub (w' := [(qf, .inr (5, [.ref qf_bestPath, .int qf_bestSize, .int qf_bestPassed, .ref qf_path, .int qf_passing, .int qf_picture, .int qf_behind])), (qs_near, eI G 8 qs_near_c), (qa, .inr (7, [.int qa_hour, .int qa_heat, .int qa_black, .int qa_so, .int qa_cracked, .int qa_behind, .int qa_allSighs, .int qa_seed, .ref qa_pictures, .ref qa_shown, .ref qa_sighed])), (qs, .inr (4, [.int qs_slides, .int qs_hearers, .int qs_nears, .int qs_lines, .int qs_pass, .int qs_spread, .int qs_lamp, .int qs_behind, .int qs_settingsTold, .ref qs_slideNames, .ref qs_pictures, .ref qs_heats, .ref qs_after, .ref qs_hearerNames, .ref qs_needs, .ref qs_likes, .ref qs_hates, .ref qs_near])), (qs_needs, eI G 8 qs_needs_c), (qs_likes, eI G 8 qs_likes_c), (qs_hates, eI G 8 qs_hates_c)]) [0, 5, 1, 6, 2, 3, 4] rfl rfl
              exact J172 j115  (by omega) _ _ _ hw (lv_sub hl [2, 0, 3, 4, 5, 6, 7] rfl)
          · skip
            have c188 : r185.toInt ≤ r182.toInt := i_ltF (X := r182.toInt) (Y := r185.toInt) rfl rfl c188
            refine lv_goto (tgt := 99) C.1 C.2.1 dX6_findMoved_59 (by decide) ?_
            exact J172 j116  (by omega) _ _ _ hw (lv_sub hl [0, 1, 2, 3, 4, 5, 6] rfl)
  exact loopJ117 _ 0 (-1) (Nat.lt_succ_self _) (by decide) (by decide) _ _ _ hw (lv_sub hl [0, 1, 2, 3, 4, 6, 7] rfl)
theorem dX6_leastCells_0 : decode cX6_leastCells 0 = .ok (.iload_n 2, 1) := by decide +kernel
theorem dX6_leastCells_1 : decode cX6_leastCells 1 = .ok (.ifCond .gt 32, 3) := by decide +kernel
theorem dX6_leastCells_33 : decode cX6_leastCells 33 = .ok (.iload_n 2, 1) := by decide +kernel
theorem dX6_leastCells_34 : decode cX6_leastCells 34 = .ok (.iconst 1, 1) := by decide +kernel
theorem dX6_leastCells_35 : decode cX6_leastCells 35 = .ok (.isub, 1) := by decide +kernel
theorem dX6_leastCells_36 : decode cX6_leastCells 36 = .ok (.istore 5, 2) := by decide +kernel
theorem dX6_leastCells_38 : decode cX6_leastCells 38 = .ok (.iload 5, 2) := by decide +kernel
theorem dX6_leastCells_40 : decode cX6_leastCells 40 = .ok (.iload_n 3, 1) := by decide +kernel
theorem dX6_leastCells_41 : decode cX6_leastCells 41 = .ok (.if_icmp .ge 37, 3) := by decide +kernel
theorem dX6_leastCells_78 : decode cX6_leastCells 78 = .ok (.iconst (-1), 1) := by decide +kernel
theorem dX6_leastCells_79 : decode cX6_leastCells 79 = .ok (.ireturn, 1) := by decide +kernel
theorem dX6_leastCells_44 : decode cX6_leastCells 44 = .ok (.aload_n 0, 1) := by decide +kernel
theorem dX6_leastCells_45 : decode cX6_leastCells 45 = .ok (.aload_n 1, 1) := by decide +kernel
theorem dX6_leastCells_46 : decode cX6_leastCells 46 = .ok (.iload_n 2, 1) := by decide +kernel
theorem dX6_leastCells_47 : decode cX6_leastCells 47 = .ok (.iconst 1, 1) := by decide +kernel
theorem dX6_leastCells_48 : decode cX6_leastCells 48 = .ok (.isub, 1) := by decide +kernel
theorem dX6_leastCells_49 : decode cX6_leastCells 49 = .ok (.iload 5, 2) := by decide +kernel
theorem dX6_leastCells_51 : decode cX6_leastCells 51 = .ok (.iload 4, 2) := by decide +kernel
theorem dX6_leastCells_53 : decode cX6_leastCells 53 = .ok (.iconst 1, 1) := by decide +kernel
theorem dX6_leastCells_54 : decode cX6_leastCells 54 = .ok (.iload 5, 2) := by decide +kernel
theorem dX6_leastCells_56 : decode cX6_leastCells 56 = .ok (.ishl, 1) := by decide +kernel
theorem dX6_leastCells_57 : decode cX6_leastCells 57 = .ok (.ior, 1) := by decide +kernel
theorem dX6_leastCells_58 : decode cX6_leastCells 58 = .ok (.invokevirtual 104, 3) := by decide +kernel
theorem mwX6_leastCells : MwV yX6_leastCells cX6_leastCells 7 (some .int) 4 := ⟨⟨kw863, kw12, by decide +kernel⟩, kw862, kS22⟩
theorem dX6_leastCells_4 : decode cX6_leastCells 4 = .ok (.aload_n 1, 1) := by decide +kernel
theorem dX6_leastCells_5 : decode cX6_leastCells 5 = .ok (.aload_n 1, 1) := by decide +kernel
theorem dX6_leastCells_6 : decode cX6_leastCells 6 = .ok (.aload_n 0, 1) := by decide +kernel
theorem dX6_leastCells_7 : decode cX6_leastCells 7 = .ok (.getfield 100, 3) := by decide +kernel
theorem dX6_leastCells_10 : decode cX6_leastCells 10 = .ok (.iload 4, 2) := by decide +kernel
theorem dX6_leastCells_12 : decode cX6_leastCells 12 = .ok (.ixor, 1) := by decide +kernel
theorem dX6_leastCells_13 : decode cX6_leastCells 13 = .ok (.aload_n 0, 1) := by decide +kernel
theorem dX6_leastCells_14 : decode cX6_leastCells 14 = .ok (.getfield 103, 3) := by decide +kernel
theorem dX6_leastCells_17 : decode cX6_leastCells 17 = .ok (.invokevirtual 41, 3) := by decide +kernel
theorem dX6_leastCells_20 : decode cX6_leastCells 20 = .ok (.invokevirtual 45, 3) := by decide +kernel
theorem dX6_leastCells_23 : decode cX6_leastCells 23 = .ok (.ifCond .eq 8, 3) := by decide +kernel
theorem dX6_leastCells_31 : decode cX6_leastCells 31 = .ok (.iconst (-1), 1) := by decide +kernel
theorem dX6_leastCells_32 : decode cX6_leastCells 32 = .ok (.ireturn, 1) := by decide +kernel
theorem dX6_leastCells_26 : decode cX6_leastCells 26 = .ok (.iload 4, 2) := by decide +kernel
theorem dX6_leastCells_28 : decode cX6_leastCells 28 = .ok (.goto 4, 3) := by decide +kernel
theorem dX6_leastCells_61 : decode cX6_leastCells 61 = .ok (.istore 6, 2) := by decide +kernel
theorem dX6_leastCells_63 : decode cX6_leastCells 63 = .ok (.iload 6, 2) := by decide +kernel
theorem dX6_leastCells_65 : decode cX6_leastCells 65 = .ok (.iconst (-1), 1) := by decide +kernel
theorem dX6_leastCells_66 : decode cX6_leastCells 66 = .ok (.if_icmp .eq 6, 3) := by decide +kernel
theorem dX6_leastCells_72 : decode cX6_leastCells 72 = .ok (.iinc 5 1, 3) := by decide +kernel
theorem dX6_leastCells_75 : decode cX6_leastCells 75 = .ok (.goto (-37), 3) := by decide +kernel
theorem dX6_leastCells_69 : decode cX6_leastCells 69 = .ok (.iload 6, 2) := by decide +kernel
theorem dX6_leastCells_71 : decode cX6_leastCells 71 = .ok (.ireturn, 1) := by decide +kernel
set_option maxHeartbeats 4000000 in
set_option maxRecDepth 100000 in
theorem s_X6_leastCells_n {l : Launch} {G : Gc} (n : Nat) : ∀ (qf : Nat) (qs : Nat) (a1 : Int32) (a2 : Int32) (a3 : Int32) (qf_bestPath : Nat) (qf_bestSize : Int32) (qf_bestPassed : Int32) (qf_path : Nat) (qf_passing : Int32) (qf_picture : Int32) (qf_behind : Int32) (qs_slides : Int32) (qs_hearers : Int32) (qs_nears : Int32) (qs_lines : Int32) (qs_pass : Int32) (qs_spread : Int32) (qs_lamp : Int32) (qs_behind : Int32) (qs_settingsTold : Int32) (qs_slideNames : Nat) (qs_pictures : Nat) (qs_heats : Nat) (qs_after : Nat) (qs_hearerNames : Nat) (qs_needs : Nat) (qs_likes : Nat) (qs_hates : Nat) (qs_near : Nat) (qs_needs_c : Nat → Int32) (qs_likes_c : Nat → Int32) (qs_hates_c : Nat → Int32) (qs_near_c : Nat → Int32), (0 ≤ a1.toInt ∧ a1.toInt ≤ 4) → (0 ≤ qf_bestSize.toInt ∧ qf_bestSize.toInt ≤ 6) → (0 ≤ qs_slides.toInt ∧ qs_slides.toInt ≤ 6) → (0 ≤ qs_hearers.toInt ∧ qs_hearers.toInt ≤ 8) → (a1.toInt < (n : Int)) → Ci l yX6_leastCells cX6_leastCells 7 (some .int) (5 + 1 * n) 0 0 G [.ref qf, .ref qs, .int a1, .int a2, .int a3] [(qf, .inr (5, [.ref qf_bestPath, .int qf_bestSize, .int qf_bestPassed, .ref qf_path, .int qf_passing, .int qf_picture, .int qf_behind])), (qs, .inr (4, [.int qs_slides, .int qs_hearers, .int qs_nears, .int qs_lines, .int qs_pass, .int qs_spread, .int qs_lamp, .int qs_behind, .int qs_settingsTold, .ref qs_slideNames, .ref qs_pictures, .ref qs_heats, .ref qs_after, .ref qs_hearerNames, .ref qs_needs, .ref qs_likes, .ref qs_hates, .ref qs_near])), (qs_needs, eI G 8 qs_needs_c), (qs_likes, eI G 8 qs_likes_c), (qs_hates, eI G 8 qs_hates_c), (qs_near, eI G 8 qs_near_c)] (fun (r9 : Int32) (u9 : va_W) => ∃ (r_x : Int32), r9 = r_x ∧ u9 = [(qf, .inr (5, [.ref qf_bestPath, .int qf_bestSize, .int qf_bestPassed, .ref qf_path, .int qf_passing, .int qf_picture, .int qf_behind])), (qs, .inr (4, [.int qs_slides, .int qs_hearers, .int qs_nears, .int qs_lines, .int qs_pass, .int qs_spread, .int qs_lamp, .int qs_behind, .int qs_settingsTold, .ref qs_slideNames, .ref qs_pictures, .ref qs_heats, .ref qs_after, .ref qs_hearerNames, .ref qs_needs, .ref qs_likes, .ref qs_hates, .ref qs_near])), (qs_needs, eI G 8 qs_needs_c), (qs_likes, eI G 8 qs_likes_c), (qs_hates, eI G 8 qs_hates_c), (qs_near, eI G 8 qs_near_c)]) := by
  induction n with
  | zero => intro qf qs a1 a2 a3 qf_bestPath qf_bestSize qf_bestPassed qf_path qf_passing qf_picture qf_behind qs_slides qs_hearers qs_nears qs_lines qs_pass qs_spread qs_lamp qs_behind qs_settingsTold qs_slideNames qs_pictures qs_heats qs_after qs_hearerNames qs_needs qs_likes qs_hates qs_near qs_needs_c qs_likes_c qs_hates_c qs_near_c hi_a1 hi_qf_bestSize hi_qs_slides hi_qs_hearers hme; exfalso; omega
  | succ n ih =>
    intro qf qs a1 a2 a3 qf_bestPath qf_bestSize qf_bestPassed qf_path qf_passing qf_picture qf_behind qs_slides qs_hearers qs_nears qs_lines qs_pass qs_spread qs_lamp qs_behind qs_settingsTold qs_slideNames qs_pictures qs_heats qs_after qs_hearerNames qs_needs qs_likes qs_hates qs_near qs_needs_c qs_likes_c qs_hates_c qs_near_c hi_a1 hi_qf_bestSize hi_qs_slides hi_qs_hearers hme
    refine Ci.ofQ (by decide) (Nat.le_of_ble_eq_true rfl) ?_
    intro p e s m below meth c ls A args Q hQ B hw hl
    have C : CallFix p m c cX6_leastCells 7 s args gw "LanternState$Search" := B.1
    have hl : lv_has ls 7 [(0, .ref qf), (1, .ref qs), (2, .int a1), (3, .int a2), (4, .int a3)] := hl
    refine lv_iload_n C.1 C.2.1 dX6_leastCells_0 rfl (lv_at hl 2 rfl) ?_
    refine lv_if_gt (tgt := 33) C.1 C.2.1 dX6_leastCells_1 (by decide) (fun c1 => ?_) (fun c1 => ?_)
    · skip
      have c1 : 0 < a1.toInt := i_ltT (X := 0) (Y := a1.toInt) rfl rfl c1
      refine lv_iload_n C.1 C.2.1 dX6_leastCells_33 rfl (lv_at hl 2 rfl) ?_
      refine lv_iconst (v := 1) C.1 C.2.1 dX6_leastCells_34 (by decide) ?_
      refine lv_isub C.1 C.2.1 dX6_leastCells_35 (x_genP (fun z : Int32 => z.toInt = a1.toInt - 1) (i_sub (X := a1.toInt) (Y := 1) rfl rfl (by omega) (by omega)) (fun v2 hv2 => ?_))
      refine lv_istore (lv' := [(5, .int v2), (0, .ref qf), (1, .ref qs), (2, .int a1), (3, .int a2), (4, .int a3)]) C.1 C.2.1 dX6_leastCells_36 hl (by decide) rfl (fun ls hl => ?_)
      have loopJ33 : ∀ (n9 : Nat) (j32 : Int32), (2147483647 - j32.toInt).toNat < n9 → (0 ≤ j32.toInt ∧ j32.toInt ≤ 2147483647) → ∀ (H : Heap) (locs : List Loc) (ls : Array Slot), Wd G s A [(qf, .inr (5, [.ref qf_bestPath, .int qf_bestSize, .int qf_bestPassed, .ref qf_path, .int qf_passing, .int qf_picture, .int qf_behind])), (qs, .inr (4, [.int qs_slides, .int qs_hearers, .int qs_nears, .int qs_lines, .int qs_pass, .int qs_spread, .int qs_lamp, .int qs_behind, .int qs_settingsTold, .ref qs_slideNames, .ref qs_pictures, .ref qs_heats, .ref qs_after, .ref qs_hearerNames, .ref qs_needs, .ref qs_likes, .ref qs_hates, .ref qs_near])), (qs_needs, eI G 8 qs_needs_c), (qs_likes, eI G 8 qs_likes_c), (qs_hates, eI G 8 qs_hates_c), (qs_near, eI G 8 qs_near_c)] H locs → lv_has ls 7 [(5, .int j32), (0, .ref qf), (1, .ref qs), (2, .int a1), (3, .int a2), (4, .int a3)] → W p l e (rmD (5 + 1 * (n + 1)) 0 0) s m args below meth c H locs 0 0 Q (F0 m 38 ls []) := by
        intro n9
        induction n9 with
        | zero => intro j32 h9; exact absurd h9 (Nat.not_lt_zero _)
        | succ n9 ihJ33 =>
          intro j32 h9J33 hJ33_0 H locs ls hw hl
          have hbj32 := i_bd j32
          refine lv_iload C.1 C.2.1 dX6_leastCells_38 (lv_at hl 0 rfl) ?_
          refine lv_iload_n C.1 C.2.1 dX6_leastCells_40 rfl (lv_at hl 4 rfl) ?_
          refine lv_icmp_ge (tgt := 78) C.1 C.2.1 dX6_leastCells_41 (by decide) (fun c44 => ?_) (fun c44 => ?_)
          · skip
            have c44 : a2.toInt ≤ j32.toInt := i_leT (X := a2.toInt) (Y := j32.toInt) rfl rfl c44
            have bc44_j32 := i_bd j32
            have bc44_a2 := i_bd a2
            refine lv_iconst (v := (-1)) C.1 C.2.1 dX6_leastCells_78 (by decide) ?_
            exact x_retiQ hQ B hw ⟨(-1), rfl, rfl⟩ (Nat.le_of_ble_eq_true rfl) (Nat.le_of_ble_eq_true rfl) dX6_leastCells_79
          · skip
            have c44 : j32.toInt < a2.toInt := i_leF (X := a2.toInt) (Y := j32.toInt) rfl rfl c44
            have bc44_j32 := i_bd j32
            have bc44_a2 := i_bd a2
            refine lv_aload_n C.1 C.2.1 dX6_leastCells_44 rfl (lv_at hl 1 rfl) ?_
            refine lv_aload_n C.1 C.2.1 dX6_leastCells_45 rfl (lv_at hl 2 rfl) ?_
            refine lv_iload_n C.1 C.2.1 dX6_leastCells_46 rfl (lv_at hl 3 rfl) ?_
            refine lv_iconst (v := 1) C.1 C.2.1 dX6_leastCells_47 (by decide) ?_
            refine lv_isub C.1 C.2.1 dX6_leastCells_48 (x_genP (fun z : Int32 => z.toInt = a1.toInt - 1) (i_sub (X := a1.toInt) (Y := 1) rfl rfl (by omega) (by omega)) (fun v45 hv45 => ?_))
            refine lv_iload C.1 C.2.1 dX6_leastCells_49 (lv_at hl 0 rfl) ?_
            refine lv_iload C.1 C.2.1 dX6_leastCells_51 (lv_at hl 5 rfl) ?_
            refine lv_iconst (v := 1) C.1 C.2.1 dX6_leastCells_53 (by decide) ?_
            refine lv_iload C.1 C.2.1 dX6_leastCells_54 (lv_at hl 0 rfl) ?_
            refine lv_ishl C.1 C.2.1 dX6_leastCells_56 (x_gen (fun v46 => ?_))
            refine lv_ior C.1 C.2.1 dX6_leastCells_57 (x_gen (fun v47 => ?_))
            refine x_calliV (As := [.ref qs, .int v45, .int j32, .int v47]) (rest := []) (wr := []) C hw (ih qf qs v45 j32 v47 qf_bestPath qf_bestSize qf_bestPassed qf_path qf_passing qf_picture qf_behind qs_slides qs_hearers qs_nears qs_lines qs_pass qs_spread qs_lamp qs_behind qs_settingsTold qs_slideNames qs_pictures qs_heats qs_after qs_hearerNames qs_needs qs_likes qs_hates qs_near qs_needs_c qs_likes_c qs_hates_c qs_near_c (by omega) (by omega) (by omega) (by omega) (by omega)) mwX6_leastCells kw860 [0, 1, 2, 3, 4, 5] [] rfl rfl rfl rfl (by decide) 0 rfl rfl rfl rfl hl.1 rfl (Nat.le_of_ble_eq_true rfl) ⟨(by dsimp only [rmD]; omega), (by dsimp only [rmD]; omega)⟩ ⟨(Nat.le_of_ble_eq_true rfl), (Nat.le_of_ble_eq_true rfl)⟩ dX6_leastCells_58 (fun r48 u9 H locs hp9 hw => ?_)
            obtain ⟨x49, rfl, rfl⟩ := hp9
            have hw : Wd G s A [(qf, .inr (5, [.ref qf_bestPath, .int qf_bestSize, .int qf_bestPassed, .ref qf_path, .int qf_passing, .int qf_picture, .int qf_behind])), (qs, .inr (4, [.int qs_slides, .int qs_hearers, .int qs_nears, .int qs_lines, .int qs_pass, .int qs_spread, .int qs_lamp, .int qs_behind, .int qs_settingsTold, .ref qs_slideNames, .ref qs_pictures, .ref qs_heats, .ref qs_after, .ref qs_hearerNames, .ref qs_needs, .ref qs_likes, .ref qs_hates, .ref qs_near])), (qs_needs, eI G 8 qs_needs_c), (qs_likes, eI G 8 qs_likes_c), (qs_hates, eI G 8 qs_hates_c), (qs_near, eI G 8 qs_near_c)] H _ := hw
            refine lv_istore (lv' := [(6, .int r48), (5, .int j32), (0, .ref qf), (1, .ref qs), (2, .int a1), (3, .int a2), (4, .int a3)]) C.1 C.2.1 dX6_leastCells_61 hl (by decide) rfl (fun ls hl => ?_)
            refine lv_iload C.1 C.2.1 dX6_leastCells_63 (lv_at hl 0 rfl) ?_
            refine lv_iconst (v := (-1)) C.1 C.2.1 dX6_leastCells_65 (by decide) ?_
            refine lv_icmp_eq (tgt := 72) C.1 C.2.1 dX6_leastCells_66 (by decide) (fun c50 => ?_) (fun c50 => ?_)
            · skip
              have c50 : r48.toInt = (-1) := i_eqT (X := r48.toInt) (Y := (-1)) rfl rfl c50
              have bc50_r48 := i_bd r48
              obtain ⟨v51, ev51⟩ : ∃ z : Int32, j32 + 1 = z := ⟨_, rfl⟩
              have hv51 : v51.toInt = j32.toInt + 1 := by rw [← ev51]; exact i_add rfl rfl (by omega) (by omega)
              refine lv_iinc (v := v51) (lv' := [(5, .int v51), (6, .int r48), (0, .ref qf), (1, .ref qs), (2, .int a1), (3, .int a2), (4, .int a3)]) C.1 C.2.1 dX6_leastCells_72 hl (k := 1) rfl ev51 (by decide) rfl (fun ls hl => ?_)
              refine lv_goto (tgt := 38) C.1 C.2.1 dX6_leastCells_75 (by decide) ?_
              exact ihJ33 v51 (by omega) (by omega) _ _ _ hw (lv_sub hl [0, 2, 3, 4, 5, 6] rfl)
            · skip
              have c50 : r48.toInt ≠ (-1) := i_eqF (X := r48.toInt) (Y := (-1)) rfl rfl c50
              have bc50_r48 := i_bd r48
              refine lv_iload C.1 C.2.1 dX6_leastCells_69 (lv_at hl 0 rfl) ?_
              exact x_retiQ hQ B hw ⟨r48, rfl, rfl⟩ (Nat.le_of_ble_eq_true rfl) (Nat.le_of_ble_eq_true rfl) dX6_leastCells_71
      exact loopJ33 _ v2 (Nat.lt_succ_self _) (by omega) _ _ _ hw (lv_sub hl [0, 1, 2, 3, 4, 5] rfl)
    · skip
      have c1 : a1.toInt ≤ 0 := i_ltF (X := 0) (Y := a1.toInt) rfl rfl c1
      refine lv_aload_n C.1 C.2.1 dX6_leastCells_4 rfl (lv_at hl 1 rfl) ?_
      refine lv_aload_n C.1 C.2.1 dX6_leastCells_5 rfl (lv_at hl 1 rfl) ?_
      refine lv_aload_n C.1 C.2.1 dX6_leastCells_6 rfl (lv_at hl 0 rfl) ?_
      refine x_get C hw iwX6 5 rfl 0 rfl 5 (by decide) kw384 rfl dX6_leastCells_7 ?_
      refine lv_iload C.1 C.2.1 dX6_leastCells_10 (lv_at hl 4 rfl) ?_
      refine lv_ixor C.1 C.2.1 dX6_leastCells_12 (x_gen (fun v52 => ?_))
      refine lv_aload_n C.1 C.2.1 dX6_leastCells_13 rfl (lv_at hl 0 rfl) ?_
      refine x_get C hw iwX6 5 rfl 0 rfl 6 (by decide) kw385 rfl dX6_leastCells_14 ?_
      refine x_calliV (As := [.int v52, .int qf_behind]) (rest := [.ref qs]) (wr := [(qf, .inr (5, [.ref qf_bestPath, .int qf_bestSize, .int qf_bestPassed, .ref qf_path, .int qf_passing, .int qf_picture, .int qf_behind]))]) C hw (s_X5_sighers qs v52 qf_behind qs_slides qs_hearers qs_nears qs_lines qs_pass qs_spread qs_lamp qs_behind qs_settingsTold qs_slideNames qs_pictures qs_heats qs_after qs_hearerNames qs_needs qs_likes qs_hates qs_near qs_needs_c qs_likes_c qs_hates_c qs_near_c (by omega) (by omega)) mwX5_sighers kw822 [1, 2, 3, 4, 5] [0] rfl rfl rfl rfl (by decide) 0 rfl rfl rfl rfl hl.1 rfl (Nat.le_of_ble_eq_true rfl) ⟨(by dsimp only [rmD]; omega), (by dsimp only [rmD]; omega)⟩ ⟨(Nat.le_of_ble_eq_true rfl), (Nat.le_of_ble_eq_true rfl)⟩ dX6_leastCells_17 (fun r53 u9 H locs hp9 hw => ?_)
      obtain ⟨x54, rfl, rfl⟩ := hp9
      have hw : Wd G s A [(qf, .inr (5, [.ref qf_bestPath, .int qf_bestSize, .int qf_bestPassed, .ref qf_path, .int qf_passing, .int qf_picture, .int qf_behind])), (qs, .inr (4, [.int qs_slides, .int qs_hearers, .int qs_nears, .int qs_lines, .int qs_pass, .int qs_spread, .int qs_lamp, .int qs_behind, .int qs_settingsTold, .ref qs_slideNames, .ref qs_pictures, .ref qs_heats, .ref qs_after, .ref qs_hearerNames, .ref qs_needs, .ref qs_likes, .ref qs_hates, .ref qs_near])), (qs_needs, eI G 8 qs_needs_c), (qs_likes, eI G 8 qs_likes_c), (qs_hates, eI G 8 qs_hates_c), (qs_near, eI G 8 qs_near_c)] H _ := hw
      refine x_calliV (As := [.int r53]) (rest := []) (wr := [(qf, .inr (5, [.ref qf_bestPath, .int qf_bestSize, .int qf_bestPassed, .ref qf_path, .int qf_passing, .int qf_picture, .int qf_behind])), (qs_needs, eI G 8 qs_needs_c), (qs_likes, eI G 8 qs_likes_c), (qs_hates, eI G 8 qs_hates_c), (qs_near, eI G 8 qs_near_c)]) C hw (s_X5_isEnough qs r53 qs_slides qs_hearers qs_nears qs_lines qs_pass qs_spread qs_lamp qs_behind qs_settingsTold qs_slideNames qs_pictures qs_heats qs_after qs_hearerNames qs_needs qs_likes qs_hates qs_near (by omega) (by omega)) mwX5_isEnough kw823 [1] [0, 2, 3, 4, 5] rfl rfl rfl rfl (by decide) 0 rfl rfl rfl rfl hl.1 rfl (Nat.le_of_ble_eq_true rfl) ⟨(by dsimp only [rmD]; omega), (by dsimp only [rmD]; omega)⟩ ⟨(Nat.le_of_ble_eq_true rfl), (Nat.le_of_ble_eq_true rfl)⟩ dX6_leastCells_20 (fun r55 u9 H locs hp9 hw => ?_)
      rcases hp9 with ⟨rfl, rfl⟩ | ⟨rfl, rfl⟩
      · skip
        have hw : Wd G s A [(qf, .inr (5, [.ref qf_bestPath, .int qf_bestSize, .int qf_bestPassed, .ref qf_path, .int qf_passing, .int qf_picture, .int qf_behind])), (qs_needs, eI G 8 qs_needs_c), (qs_likes, eI G 8 qs_likes_c), (qs_hates, eI G 8 qs_hates_c), (qs_near, eI G 8 qs_near_c), (qs, .inr (4, [.int qs_slides, .int qs_hearers, .int qs_nears, .int qs_lines, .int qs_pass, .int qs_spread, .int qs_lamp, .int qs_behind, .int qs_settingsTold, .ref qs_slideNames, .ref qs_pictures, .ref qs_heats, .ref qs_after, .ref qs_hearerNames, .ref qs_needs, .ref qs_likes, .ref qs_hates, .ref qs_near]))] H _ := hw
        refine lv_if_eq (tgt := 31) C.1 C.2.1 dX6_leastCells_23 (by decide) (fun _ => ?_) (fun h9 => absurd (by decide) h9)
        refine lv_iconst (v := (-1)) C.1 C.2.1 dX6_leastCells_31 (by decide) ?_
        have hw := hw.sub (w' := [(qf, .inr (5, [.ref qf_bestPath, .int qf_bestSize, .int qf_bestPassed, .ref qf_path, .int qf_passing, .int qf_picture, .int qf_behind])), (qs, .inr (4, [.int qs_slides, .int qs_hearers, .int qs_nears, .int qs_lines, .int qs_pass, .int qs_spread, .int qs_lamp, .int qs_behind, .int qs_settingsTold, .ref qs_slideNames, .ref qs_pictures, .ref qs_heats, .ref qs_after, .ref qs_hearerNames, .ref qs_needs, .ref qs_likes, .ref qs_hates, .ref qs_near])), (qs_needs, eI G 8 qs_needs_c), (qs_likes, eI G 8 qs_likes_c), (qs_hates, eI G 8 qs_hates_c), (qs_near, eI G 8 qs_near_c)]) [0, 5, 1, 2, 3, 4] rfl rfl
        exact x_retiQ hQ B hw ⟨(-1), rfl, rfl⟩ (Nat.le_of_ble_eq_true rfl) (Nat.le_of_ble_eq_true rfl) dX6_leastCells_32
      · skip
        have hw : Wd G s A [(qf, .inr (5, [.ref qf_bestPath, .int qf_bestSize, .int qf_bestPassed, .ref qf_path, .int qf_passing, .int qf_picture, .int qf_behind])), (qs_needs, eI G 8 qs_needs_c), (qs_likes, eI G 8 qs_likes_c), (qs_hates, eI G 8 qs_hates_c), (qs_near, eI G 8 qs_near_c), (qs, .inr (4, [.int qs_slides, .int qs_hearers, .int qs_nears, .int qs_lines, .int qs_pass, .int qs_spread, .int qs_lamp, .int qs_behind, .int qs_settingsTold, .ref qs_slideNames, .ref qs_pictures, .ref qs_heats, .ref qs_after, .ref qs_hearerNames, .ref qs_needs, .ref qs_likes, .ref qs_hates, .ref qs_near]))] H _ := hw
        refine lv_if_eq (tgt := 31) C.1 C.2.1 dX6_leastCells_23 (by decide) (fun h9 => absurd h9 (by decide)) (fun _ => ?_)
        refine lv_iload C.1 C.2.1 dX6_leastCells_26 (lv_at hl 4 rfl) ?_
        refine lv_goto (tgt := 32) C.1 C.2.1 dX6_leastCells_28 (by decide) ?_
        have hw := hw.sub (w' := [(qf, .inr (5, [.ref qf_bestPath, .int qf_bestSize, .int qf_bestPassed, .ref qf_path, .int qf_passing, .int qf_picture, .int qf_behind])), (qs, .inr (4, [.int qs_slides, .int qs_hearers, .int qs_nears, .int qs_lines, .int qs_pass, .int qs_spread, .int qs_lamp, .int qs_behind, .int qs_settingsTold, .ref qs_slideNames, .ref qs_pictures, .ref qs_heats, .ref qs_after, .ref qs_hearerNames, .ref qs_needs, .ref qs_likes, .ref qs_hates, .ref qs_near])), (qs_needs, eI G 8 qs_needs_c), (qs_likes, eI G 8 qs_likes_c), (qs_hates, eI G 8 qs_hates_c), (qs_near, eI G 8 qs_near_c)]) [0, 5, 1, 2, 3, 4] rfl rfl
        exact x_retiQ hQ B hw ⟨a3, rfl, rfl⟩ (Nat.le_of_ble_eq_true rfl) (Nat.le_of_ble_eq_true rfl) dX6_leastCells_32
theorem s_X6_leastCells {l : Launch} {G : Gc} (qf : Nat) (qs : Nat) (a1 : Int32) (a2 : Int32) (a3 : Int32) (qf_bestPath : Nat) (qf_bestSize : Int32) (qf_bestPassed : Int32) (qf_path : Nat) (qf_passing : Int32) (qf_picture : Int32) (qf_behind : Int32) (qs_slides : Int32) (qs_hearers : Int32) (qs_nears : Int32) (qs_lines : Int32) (qs_pass : Int32) (qs_spread : Int32) (qs_lamp : Int32) (qs_behind : Int32) (qs_settingsTold : Int32) (qs_slideNames : Nat) (qs_pictures : Nat) (qs_heats : Nat) (qs_after : Nat) (qs_hearerNames : Nat) (qs_needs : Nat) (qs_likes : Nat) (qs_hates : Nat) (qs_near : Nat) (qs_needs_c : Nat → Int32) (qs_likes_c : Nat → Int32) (qs_hates_c : Nat → Int32) (qs_near_c : Nat → Int32) (hi_a1 : 0 ≤ a1.toInt ∧ a1.toInt ≤ 4) (hi_qf_bestSize : 0 ≤ qf_bestSize.toInt ∧ qf_bestSize.toInt ≤ 6) (hi_qs_slides : 0 ≤ qs_slides.toInt ∧ qs_slides.toInt ≤ 6) (hi_qs_hearers : 0 ≤ qs_hearers.toInt ∧ qs_hearers.toInt ≤ 8) : Ci l yX6_leastCells cX6_leastCells 7 (some .int) 10 0 0 G [.ref qf, .ref qs, .int a1, .int a2, .int a3] [(qf, .inr (5, [.ref qf_bestPath, .int qf_bestSize, .int qf_bestPassed, .ref qf_path, .int qf_passing, .int qf_picture, .int qf_behind])), (qs, .inr (4, [.int qs_slides, .int qs_hearers, .int qs_nears, .int qs_lines, .int qs_pass, .int qs_spread, .int qs_lamp, .int qs_behind, .int qs_settingsTold, .ref qs_slideNames, .ref qs_pictures, .ref qs_heats, .ref qs_after, .ref qs_hearerNames, .ref qs_needs, .ref qs_likes, .ref qs_hates, .ref qs_near])), (qs_needs, eI G 8 qs_needs_c), (qs_likes, eI G 8 qs_likes_c), (qs_hates, eI G 8 qs_hates_c), (qs_near, eI G 8 qs_near_c)] (fun (r9 : Int32) (u9 : va_W) => ∃ (r_x : Int32), r9 = r_x ∧ u9 = [(qf, .inr (5, [.ref qf_bestPath, .int qf_bestSize, .int qf_bestPassed, .ref qf_path, .int qf_passing, .int qf_picture, .int qf_behind])), (qs, .inr (4, [.int qs_slides, .int qs_hearers, .int qs_nears, .int qs_lines, .int qs_pass, .int qs_spread, .int qs_lamp, .int qs_behind, .int qs_settingsTold, .ref qs_slideNames, .ref qs_pictures, .ref qs_heats, .ref qs_after, .ref qs_hearerNames, .ref qs_needs, .ref qs_likes, .ref qs_hates, .ref qs_near])), (qs_needs, eI G 8 qs_needs_c), (qs_likes, eI G 8 qs_likes_c), (qs_hates, eI G 8 qs_hates_c), (qs_near, eI G 8 qs_near_c)]) := s_X6_leastCells_n 5 qf qs a1 a2 a3 qf_bestPath qf_bestSize qf_bestPassed qf_path qf_passing qf_picture qf_behind qs_slides qs_hearers qs_nears qs_lines qs_pass qs_spread qs_lamp qs_behind qs_settingsTold qs_slideNames qs_pictures qs_heats qs_after qs_hearerNames qs_needs qs_likes qs_hates qs_near qs_needs_c qs_likes_c qs_hates_c qs_near_c hi_a1 hi_qf_bestSize hi_qs_slides hi_qs_hearers (by omega)
theorem dX6_findScratches_0 : decode cX6_findScratches 0 = .ok (.aload_n 0, 1) := by decide +kernel
theorem dX6_findScratches_1 : decode cX6_findScratches 1 = .ok (.iload_n 3, 1) := by decide +kernel
theorem dX6_findScratches_2 : decode cX6_findScratches 2 = .ok (.putfield 100, 3) := by decide +kernel
theorem dX6_findScratches_5 : decode cX6_findScratches 5 = .ok (.aload_n 0, 1) := by decide +kernel
theorem dX6_findScratches_6 : decode cX6_findScratches 6 = .ok (.aload_n 2, 1) := by decide +kernel
theorem dX6_findScratches_7 : decode cX6_findScratches 7 = .ok (.getfield 38, 3) := by decide +kernel
theorem dX6_findScratches_10 : decode cX6_findScratches 10 = .ok (.putfield 103, 3) := by decide +kernel
theorem dX6_findScratches_13 : decode cX6_findScratches 13 = .ok (.iconst (-1), 1) := by decide +kernel
theorem dX6_findScratches_14 : decode cX6_findScratches 14 = .ok (.istore 4, 2) := by decide +kernel
theorem dX6_findScratches_16 : decode cX6_findScratches 16 = .ok (.iconst 0, 1) := by decide +kernel
theorem dX6_findScratches_17 : decode cX6_findScratches 17 = .ok (.istore 5, 2) := by decide +kernel
theorem dX6_findScratches_19 : decode cX6_findScratches 19 = .ok (.iload 4, 2) := by decide +kernel
theorem dX6_findScratches_21 : decode cX6_findScratches 21 = .ok (.iconst (-1), 1) := by decide +kernel
theorem dX6_findScratches_22 : decode cX6_findScratches 22 = .ok (.if_icmp .ne 27, 3) := by decide +kernel
theorem dX6_findScratches_25 : decode cX6_findScratches 25 = .ok (.iload 5, 2) := by decide +kernel
theorem dX6_findScratches_27 : decode cX6_findScratches 27 = .ok (.iconst 4, 1) := by decide +kernel
theorem dX6_findScratches_28 : decode cX6_findScratches 28 = .ok (.if_icmp .gt 21, 3) := by decide +kernel
theorem dX6_findScratches_31 : decode cX6_findScratches 31 = .ok (.aload_n 0, 1) := by decide +kernel
theorem dX6_findScratches_32 : decode cX6_findScratches 32 = .ok (.aload_n 1, 1) := by decide +kernel
theorem dX6_findScratches_33 : decode cX6_findScratches 33 = .ok (.iload 5, 2) := by decide +kernel
theorem dX6_findScratches_35 : decode cX6_findScratches 35 = .ok (.bipush 16, 2) := by decide +kernel
theorem dX6_findScratches_37 : decode cX6_findScratches 37 = .ok (.iconst 0, 1) := by decide +kernel
theorem dX6_findScratches_38 : decode cX6_findScratches 38 = .ok (.invokevirtual 104, 3) := by decide +kernel
theorem dX6_findScratches_41 : decode cX6_findScratches 41 = .ok (.istore 4, 2) := by decide +kernel
theorem dX6_findScratches_43 : decode cX6_findScratches 43 = .ok (.iinc 5 1, 3) := by decide +kernel
theorem dX6_findScratches_46 : decode cX6_findScratches 46 = .ok (.goto (-27), 3) := by decide +kernel
theorem dX6_findScratches_49 : decode cX6_findScratches 49 = .ok (.iload 4, 2) := by decide +kernel
theorem dX6_findScratches_51 : decode cX6_findScratches 51 = .ok (.ireturn, 1) := by decide +kernel
set_option maxHeartbeats 4000000 in
set_option maxRecDepth 100000 in
theorem s_X6_findScratches {l : Launch} {G : Gc} (qf : Nat) (qs : Nat) (qa : Nat) (a1 : Int32) (qf_bestPath : Nat) (qf_bestSize : Int32) (qf_bestPassed : Int32) (qf_path : Nat) (qf_passing : Int32) (qf_picture : Int32) (qf_behind : Int32) (qs_slides : Int32) (qs_hearers : Int32) (qs_nears : Int32) (qs_lines : Int32) (qs_pass : Int32) (qs_spread : Int32) (qs_lamp : Int32) (qs_behind : Int32) (qs_settingsTold : Int32) (qs_slideNames : Nat) (qs_pictures : Nat) (qs_heats : Nat) (qs_after : Nat) (qs_hearerNames : Nat) (qs_needs : Nat) (qs_likes : Nat) (qs_hates : Nat) (qs_near : Nat) (qs_needs_c : Nat → Int32) (qs_likes_c : Nat → Int32) (qs_hates_c : Nat → Int32) (qs_near_c : Nat → Int32) (qa_hour : Int32) (qa_heat : Int32) (qa_black : Int32) (qa_so : Int32) (qa_cracked : Int32) (qa_behind : Int32) (qa_allSighs : Int32) (qa_seed : Int32) (qa_pictures : Nat) (qa_shown : Nat) (qa_sighed : Nat) (hi_qf_bestSize : 0 ≤ qf_bestSize.toInt ∧ qf_bestSize.toInt ≤ 6) (hi_qs_slides : 0 ≤ qs_slides.toInt ∧ qs_slides.toInt ≤ 6) (hi_qs_hearers : 0 ≤ qs_hearers.toInt ∧ qs_hearers.toInt ≤ 8) (hi_qa_black : 0 ≤ qa_black.toInt ∧ qa_black.toInt ≤ 1) : Ci l yX6_findScratches cX6_findScratches 6 (some .int) 11 0 0 G [.ref qf, .ref qs, .ref qa, .int a1] [(qf, .inr (5, [.ref qf_bestPath, .int qf_bestSize, .int qf_bestPassed, .ref qf_path, .int qf_passing, .int qf_picture, .int qf_behind])), (qs, .inr (4, [.int qs_slides, .int qs_hearers, .int qs_nears, .int qs_lines, .int qs_pass, .int qs_spread, .int qs_lamp, .int qs_behind, .int qs_settingsTold, .ref qs_slideNames, .ref qs_pictures, .ref qs_heats, .ref qs_after, .ref qs_hearerNames, .ref qs_needs, .ref qs_likes, .ref qs_hates, .ref qs_near])), (qs_needs, eI G 8 qs_needs_c), (qs_likes, eI G 8 qs_likes_c), (qs_hates, eI G 8 qs_hates_c), (qs_near, eI G 8 qs_near_c), (qa, .inr (7, [.int qa_hour, .int qa_heat, .int qa_black, .int qa_so, .int qa_cracked, .int qa_behind, .int qa_allSighs, .int qa_seed, .ref qa_pictures, .ref qa_shown, .ref qa_sighed]))] (fun (r9 : Int32) (u9 : va_W) => ∃ (r_x : Int32), r9 = r_x ∧ u9 = [(qf, .inr (5, [.ref qf_bestPath, .int qf_bestSize, .int qf_bestPassed, .ref qf_path, .int qf_passing, .int a1, .int qa_behind])), (qs, .inr (4, [.int qs_slides, .int qs_hearers, .int qs_nears, .int qs_lines, .int qs_pass, .int qs_spread, .int qs_lamp, .int qs_behind, .int qs_settingsTold, .ref qs_slideNames, .ref qs_pictures, .ref qs_heats, .ref qs_after, .ref qs_hearerNames, .ref qs_needs, .ref qs_likes, .ref qs_hates, .ref qs_near])), (qs_needs, eI G 8 qs_needs_c), (qs_likes, eI G 8 qs_likes_c), (qs_hates, eI G 8 qs_hates_c), (qs_near, eI G 8 qs_near_c), (qa, .inr (7, [.int qa_hour, .int qa_heat, .int qa_black, .int qa_so, .int qa_cracked, .int qa_behind, .int qa_allSighs, .int qa_seed, .ref qa_pictures, .ref qa_shown, .ref qa_sighed]))]) := by
  refine Ci.ofQ (by decide) (Nat.le_of_ble_eq_true rfl) ?_
  intro p e s m below meth c ls A args Q hQ B hw hl
  have C : CallFix p m c cX6_findScratches 6 s args gw "LanternState$Search" := B.1
  have hl : lv_has ls 6 [(0, .ref qf), (1, .ref qs), (2, .ref qa), (3, .int a1)] := hl
  refine lv_aload_n C.1 C.2.1 dX6_findScratches_0 rfl (lv_at hl 0 rfl) ?_
  refine lv_iload_n C.1 C.2.1 dX6_findScratches_1 rfl (lv_at hl 3 rfl) ?_
  refine x_put (w' := [(qf, .inr (5, [.ref qf_bestPath, .int qf_bestSize, .int qf_bestPassed, .ref qf_path, .int qf_passing, .int a1, .int qf_behind])), (qs, .inr (4, [.int qs_slides, .int qs_hearers, .int qs_nears, .int qs_lines, .int qs_pass, .int qs_spread, .int qs_lamp, .int qs_behind, .int qs_settingsTold, .ref qs_slideNames, .ref qs_pictures, .ref qs_heats, .ref qs_after, .ref qs_hearerNames, .ref qs_needs, .ref qs_likes, .ref qs_hates, .ref qs_near])), (qs_needs, eI G 8 qs_needs_c), (qs_likes, eI G 8 qs_likes_c), (qs_hates, eI G 8 qs_hates_c), (qs_near, eI G 8 qs_near_c), (qa, .inr (7, [.int qa_hour, .int qa_heat, .int qa_black, .int qa_so, .int qa_cracked, .int qa_behind, .int qa_allSighs, .int qa_seed, .ref qa_pictures, .ref qa_shown, .ref qa_sighed]))]) C hw iwX6 tyX6_ok nmX6 5 rfl 0 rfl 5 (by decide) kw384 rfl rfl rfl (Nat.le_of_ble_eq_true rfl) rfl dX6_findScratches_2 (fun H locs hw => ?_)
  refine lv_aload_n C.1 C.2.1 dX6_findScratches_5 rfl (lv_at hl 0 rfl) ?_
  refine lv_aload_n C.1 C.2.1 dX6_findScratches_6 rfl (lv_at hl 2 rfl) ?_
  refine x_get C hw iwX8 7 rfl 6 rfl 5 (by decide) kw257 rfl dX6_findScratches_7 ?_
  refine x_put (w' := [(qf, .inr (5, [.ref qf_bestPath, .int qf_bestSize, .int qf_bestPassed, .ref qf_path, .int qf_passing, .int a1, .int qa_behind])), (qs, .inr (4, [.int qs_slides, .int qs_hearers, .int qs_nears, .int qs_lines, .int qs_pass, .int qs_spread, .int qs_lamp, .int qs_behind, .int qs_settingsTold, .ref qs_slideNames, .ref qs_pictures, .ref qs_heats, .ref qs_after, .ref qs_hearerNames, .ref qs_needs, .ref qs_likes, .ref qs_hates, .ref qs_near])), (qs_needs, eI G 8 qs_needs_c), (qs_likes, eI G 8 qs_likes_c), (qs_hates, eI G 8 qs_hates_c), (qs_near, eI G 8 qs_near_c), (qa, .inr (7, [.int qa_hour, .int qa_heat, .int qa_black, .int qa_so, .int qa_cracked, .int qa_behind, .int qa_allSighs, .int qa_seed, .ref qa_pictures, .ref qa_shown, .ref qa_sighed]))]) C hw iwX6 tyX6_ok nmX6 5 rfl 0 rfl 6 (by decide) kw385 rfl rfl rfl (Nat.le_of_ble_eq_true rfl) rfl dX6_findScratches_10 (fun H locs hw => ?_)
  refine lv_iconst (v := (-1)) C.1 C.2.1 dX6_findScratches_13 (by decide) ?_
  refine lv_istore (lv' := [(4, .int (-1)), (0, .ref qf), (1, .ref qs), (2, .ref qa), (3, .int a1)]) C.1 C.2.1 dX6_findScratches_14 hl (by decide) rfl (fun ls hl => ?_)
  refine lv_iconst (v := 0) C.1 C.2.1 dX6_findScratches_16 (by decide) ?_
  refine lv_istore (lv' := [(5, .int 0), (4, .int (-1)), (0, .ref qf), (1, .ref qs), (2, .ref qa), (3, .int a1)]) C.1 C.2.1 dX6_findScratches_17 hl (by decide) rfl (fun ls hl => ?_)
  have loopJ33 : ∀ (n9 : Nat) (j31 : Int32) (j32 : Int32), (2147483647 - j31.toInt).toNat < n9 → (0 ≤ j31.toInt ∧ j31.toInt ≤ 5) → ∀ (H : Heap) (locs : List Loc) (ls : Array Slot), Wd G s A [(qf, .inr (5, [.ref qf_bestPath, .int qf_bestSize, .int qf_bestPassed, .ref qf_path, .int qf_passing, .int a1, .int qa_behind])), (qs, .inr (4, [.int qs_slides, .int qs_hearers, .int qs_nears, .int qs_lines, .int qs_pass, .int qs_spread, .int qs_lamp, .int qs_behind, .int qs_settingsTold, .ref qs_slideNames, .ref qs_pictures, .ref qs_heats, .ref qs_after, .ref qs_hearerNames, .ref qs_needs, .ref qs_likes, .ref qs_hates, .ref qs_near])), (qs_needs, eI G 8 qs_needs_c), (qs_likes, eI G 8 qs_likes_c), (qs_hates, eI G 8 qs_hates_c), (qs_near, eI G 8 qs_near_c), (qa, .inr (7, [.int qa_hour, .int qa_heat, .int qa_black, .int qa_so, .int qa_cracked, .int qa_behind, .int qa_allSighs, .int qa_seed, .ref qa_pictures, .ref qa_shown, .ref qa_sighed]))] H locs → lv_has ls 6 [(5, .int j31), (4, .int j32), (0, .ref qf), (1, .ref qs)] → W p l e (rmD 11 0 0) s m args below meth c H locs 0 0 Q (F0 m 19 ls []) := by
    intro n9
    induction n9 with
    | zero => intro j31 j32 h9; exact absurd h9 (Nat.not_lt_zero _)
    | succ n9 ihJ33 =>
      intro j31 j32 h9J33 hJ33_0 H locs ls hw hl
      have hbj31 := i_bd j31
      refine lv_iload C.1 C.2.1 dX6_findScratches_19 (lv_at hl 1 rfl) ?_
      refine lv_iconst (v := (-1)) C.1 C.2.1 dX6_findScratches_21 (by decide) ?_
      refine lv_icmp_ne (tgt := 49) C.1 C.2.1 dX6_findScratches_22 (by decide) (fun c39 => ?_) (fun c39 => ?_)
      · skip
        have c39 : j32.toInt ≠ (-1) := i_eqF (X := j32.toInt) (Y := (-1)) rfl rfl c39
        have bc39_j32 := i_bd j32
        refine lv_iload C.1 C.2.1 dX6_findScratches_49 (lv_at hl 1 rfl) ?_
        exact x_retiQ hQ B hw ⟨j32, rfl, rfl⟩ (Nat.le_of_ble_eq_true rfl) (Nat.le_of_ble_eq_true rfl) dX6_findScratches_51
      · skip
        have c39 : j32.toInt = (-1) := i_eqT (X := j32.toInt) (Y := (-1)) rfl rfl c39
        have bc39_j32 := i_bd j32
        refine lv_iload C.1 C.2.1 dX6_findScratches_25 (lv_at hl 0 rfl) ?_
        refine lv_iconst (v := 4) C.1 C.2.1 dX6_findScratches_27 (by decide) ?_
        refine lv_icmp_gt (tgt := 49) C.1 C.2.1 dX6_findScratches_28 (by decide) (fun c40 => ?_) (fun c40 => ?_)
        · skip
          have c40 : 4 < j31.toInt := i_ltT (X := 4) (Y := j31.toInt) rfl rfl c40
          refine lv_iload C.1 C.2.1 dX6_findScratches_49 (lv_at hl 1 rfl) ?_
          exact x_retiQ hQ B hw ⟨j32, rfl, rfl⟩ (Nat.le_of_ble_eq_true rfl) (Nat.le_of_ble_eq_true rfl) dX6_findScratches_51
        · skip
          have c40 : j31.toInt ≤ 4 := i_ltF (X := 4) (Y := j31.toInt) rfl rfl c40
          refine lv_aload_n C.1 C.2.1 dX6_findScratches_31 rfl (lv_at hl 2 rfl) ?_
          refine lv_aload_n C.1 C.2.1 dX6_findScratches_32 rfl (lv_at hl 3 rfl) ?_
          refine lv_iload C.1 C.2.1 dX6_findScratches_33 (lv_at hl 0 rfl) ?_
          refine lv_bipush (v := 16) C.1 C.2.1 dX6_findScratches_35 (by decide) ?_
          refine lv_iconst (v := 0) C.1 C.2.1 dX6_findScratches_37 (by decide) ?_
          refine x_calliV (As := [.ref qs, .int j31, .int 16, .int 0]) (rest := []) (wr := [(qa, .inr (7, [.int qa_hour, .int qa_heat, .int qa_black, .int qa_so, .int qa_cracked, .int qa_behind, .int qa_allSighs, .int qa_seed, .ref qa_pictures, .ref qa_shown, .ref qa_sighed]))]) C hw (s_X6_leastCells qf qs j31 16 0 qf_bestPath qf_bestSize qf_bestPassed qf_path qf_passing a1 qa_behind qs_slides qs_hearers qs_nears qs_lines qs_pass qs_spread qs_lamp qs_behind qs_settingsTold qs_slideNames qs_pictures qs_heats qs_after qs_hearerNames qs_needs qs_likes qs_hates qs_near qs_needs_c qs_likes_c qs_hates_c qs_near_c (by omega) (by omega) (by omega) (by omega)) mwX6_leastCells kw860 [0, 1, 2, 3, 4, 5] [6] rfl rfl rfl rfl (by decide) 0 rfl rfl rfl rfl hl.1 rfl (Nat.le_of_ble_eq_true rfl) ⟨(Nat.le_of_ble_eq_true rfl), (Nat.le_of_ble_eq_true rfl)⟩ ⟨(Nat.le_of_ble_eq_true rfl), (Nat.le_of_ble_eq_true rfl)⟩ dX6_findScratches_38 (fun r41 u9 H locs hp9 hw => ?_)
          obtain ⟨x42, rfl, rfl⟩ := hp9
          have hw : Wd G s A [(qa, .inr (7, [.int qa_hour, .int qa_heat, .int qa_black, .int qa_so, .int qa_cracked, .int qa_behind, .int qa_allSighs, .int qa_seed, .ref qa_pictures, .ref qa_shown, .ref qa_sighed])), (qf, .inr (5, [.ref qf_bestPath, .int qf_bestSize, .int qf_bestPassed, .ref qf_path, .int qf_passing, .int a1, .int qa_behind])), (qs, .inr (4, [.int qs_slides, .int qs_hearers, .int qs_nears, .int qs_lines, .int qs_pass, .int qs_spread, .int qs_lamp, .int qs_behind, .int qs_settingsTold, .ref qs_slideNames, .ref qs_pictures, .ref qs_heats, .ref qs_after, .ref qs_hearerNames, .ref qs_needs, .ref qs_likes, .ref qs_hates, .ref qs_near])), (qs_needs, eI G 8 qs_needs_c), (qs_likes, eI G 8 qs_likes_c), (qs_hates, eI G 8 qs_hates_c), (qs_near, eI G 8 qs_near_c)] H _ := hw
          refine lv_istore (lv' := [(4, .int r41), (5, .int j31), (0, .ref qf), (1, .ref qs)]) C.1 C.2.1 dX6_findScratches_41 hl (by decide) rfl (fun ls hl => ?_)
          obtain ⟨v43, ev43⟩ : ∃ z : Int32, j31 + 1 = z := ⟨_, rfl⟩
          have hv43 : v43.toInt = j31.toInt + 1 := by rw [← ev43]; exact i_add rfl rfl (by omega) (by omega)
          refine lv_iinc (v := v43) (lv' := [(5, .int v43), (4, .int r41), (0, .ref qf), (1, .ref qs)]) C.1 C.2.1 dX6_findScratches_43 hl (k := 1) rfl ev43 (by decide) rfl (fun ls hl => ?_)
          refine lv_goto (tgt := 19) C.1 C.2.1 dX6_findScratches_46 (by decide) ?_
          have hw := hw.sub (w' := [(qf, .inr (5, [.ref qf_bestPath, .int qf_bestSize, .int qf_bestPassed, .ref qf_path, .int qf_passing, .int a1, .int qa_behind])), (qs, .inr (4, [.int qs_slides, .int qs_hearers, .int qs_nears, .int qs_lines, .int qs_pass, .int qs_spread, .int qs_lamp, .int qs_behind, .int qs_settingsTold, .ref qs_slideNames, .ref qs_pictures, .ref qs_heats, .ref qs_after, .ref qs_hearerNames, .ref qs_needs, .ref qs_likes, .ref qs_hates, .ref qs_near])), (qs_needs, eI G 8 qs_needs_c), (qs_likes, eI G 8 qs_likes_c), (qs_hates, eI G 8 qs_hates_c), (qs_near, eI G 8 qs_near_c), (qa, .inr (7, [.int qa_hour, .int qa_heat, .int qa_black, .int qa_so, .int qa_cracked, .int qa_behind, .int qa_allSighs, .int qa_seed, .ref qa_pictures, .ref qa_shown, .ref qa_sighed]))]) [1, 2, 3, 4, 5, 6, 0] rfl rfl
          exact ihJ33 v43 r41 (by omega) (by omega) _ _ _ hw (lv_sub hl [0, 1, 2, 3] rfl)
  exact loopJ33 _ 0 (-1) (Nat.lt_succ_self _) (by decide) _ _ _ hw (lv_sub hl [0, 1, 2, 3] rfl)
