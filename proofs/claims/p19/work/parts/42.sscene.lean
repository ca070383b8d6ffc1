-- needs: 4
set_option maxHeartbeats 4000000 in
set_option maxRecDepth 100000 in
theorem s_X5_clear {l : Launch} {G : Gc} (qs : Nat) (qs_slides : Int32) (qs_hearers : Int32) (qs_nears : Int32) (qs_lines : Int32) (qs_pass : Int32) (qs_spread : Int32) (qs_lamp : Int32) (qs_behind : Int32) (qs_settingsTold : Int32) (qs_slideNames : Nat) (qs_pictures : Nat) (qs_heats : Nat) (qs_after : Nat) (qs_hearerNames : Nat) (qs_needs : Nat) (qs_likes : Nat) (qs_hates : Nat) (qs_near : Nat)  : Cv l yX5_clear cX5_clear 1 0 0 0 G [.ref qs] [(qs, .inr (4, [.int qs_slides, .int qs_hearers, .int qs_nears, .int qs_lines, .int qs_pass, .int qs_spread, .int qs_lamp, .int qs_behind, .int qs_settingsTold, .ref qs_slideNames, .ref qs_pictures, .ref qs_heats, .ref qs_after, .ref qs_hearerNames, .ref qs_needs, .ref qs_likes, .ref qs_hates, .ref qs_near]))] (fun (u9 : va_W) => u9 = [(qs, .inr (4, [.int 0, .int 0, .int 0, .int 0, .int 1, .int 0, .int 40, .int 0, .int 0, .ref qs_slideNames, .ref qs_pictures, .ref qs_heats, .ref qs_after, .ref qs_hearerNames, .ref qs_needs, .ref qs_likes, .ref qs_hates, .ref qs_near]))]) := by
  refine Cv.ofQ (by decide) (Nat.le_of_ble_eq_true rfl) ?_
  intro p e s m below meth c ls A args Q hQ B hw hl
  have C : CallFix p m c cX5_clear 1 s args gw "LanternState$Scene" := B.1
  have hl : lv_has ls 1 [(0, .ref qs)] := hl
  refine lv_aload_n C.1 C.2.1 dX5_clear_0 rfl (lv_at hl 0 rfl) ?_
  refine lv_iconst (v := 0) C.1 C.2.1 dX5_clear_1 (by decide) ?_
  refine x_put (w' := [(qs, .inr (4, [.int 0, .int qs_hearers, .int qs_nears, .int qs_lines, .int qs_pass, .int qs_spread, .int qs_lamp, .int qs_behind, .int qs_settingsTold, .ref qs_slideNames, .ref qs_pictures, .ref qs_heats, .ref qs_after, .ref qs_hearerNames, .ref qs_needs, .ref qs_likes, .ref qs_hates, .ref qs_near]))]) C hw iwX5 tyX5_ok nmX5 4 rfl 0 rfl 0 (by decide) kw147 rfl rfl rfl (Nat.le_of_ble_eq_true rfl) rfl dX5_clear_2 (fun H locs hw => ?_)
  refine lv_aload_n C.1 C.2.1 dX5_clear_5 rfl (lv_at hl 0 rfl) ?_
  refine lv_iconst (v := 0) C.1 C.2.1 dX5_clear_6 (by decide) ?_
  refine x_put (w' := [(qs, .inr (4, [.int 0, .int 0, .int qs_nears, .int qs_lines, .int qs_pass, .int qs_spread, .int qs_lamp, .int qs_behind, .int qs_settingsTold, .ref qs_slideNames, .ref qs_pictures, .ref qs_heats, .ref qs_after, .ref qs_hearerNames, .ref qs_needs, .ref qs_likes, .ref qs_hates, .ref qs_near]))]) C hw iwX5 tyX5_ok nmX5 4 rfl 0 rfl 1 (by decide) kw152 rfl rfl rfl (Nat.le_of_ble_eq_true rfl) rfl dX5_clear_7 (fun H locs hw => ?_)
  refine lv_aload_n C.1 C.2.1 dX5_clear_10 rfl (lv_at hl 0 rfl) ?_
  refine lv_iconst (v := 0) C.1 C.2.1 dX5_clear_11 (by decide) ?_
  refine x_put (w' := [(qs, .inr (4, [.int 0, .int 0, .int 0, .int qs_lines, .int qs_pass, .int qs_spread, .int qs_lamp, .int qs_behind, .int qs_settingsTold, .ref qs_slideNames, .ref qs_pictures, .ref qs_heats, .ref qs_after, .ref qs_hearerNames, .ref qs_needs, .ref qs_likes, .ref qs_hates, .ref qs_near]))]) C hw iwX5 tyX5_ok nmX5 4 rfl 0 rfl 2 (by decide) kw156 rfl rfl rfl (Nat.le_of_ble_eq_true rfl) rfl dX5_clear_12 (fun H locs hw => ?_)
  refine lv_aload_n C.1 C.2.1 dX5_clear_15 rfl (lv_at hl 0 rfl) ?_
  refine lv_iconst (v := 0) C.1 C.2.1 dX5_clear_16 (by decide) ?_
  refine x_put (w' := [(qs, .inr (4, [.int 0, .int 0, .int 0, .int 0, .int qs_pass, .int qs_spread, .int qs_lamp, .int qs_behind, .int qs_settingsTold, .ref qs_slideNames, .ref qs_pictures, .ref qs_heats, .ref qs_after, .ref qs_hearerNames, .ref qs_needs, .ref qs_likes, .ref qs_hates, .ref qs_near]))]) C hw iwX5 tyX5_ok nmX5 4 rfl 0 rfl 3 (by decide) kw158 rfl rfl rfl (Nat.le_of_ble_eq_true rfl) rfl dX5_clear_17 (fun H locs hw => ?_)
  refine lv_aload_n C.1 C.2.1 dX5_clear_20 rfl (lv_at hl 0 rfl) ?_
  refine lv_iconst (v := 1) C.1 C.2.1 dX5_clear_21 (by decide) ?_
  refine x_put (w' := [(qs, .inr (4, [.int 0, .int 0, .int 0, .int 0, .int 1, .int qs_spread, .int qs_lamp, .int qs_behind, .int qs_settingsTold, .ref qs_slideNames, .ref qs_pictures, .ref qs_heats, .ref qs_after, .ref qs_hearerNames, .ref qs_needs, .ref qs_likes, .ref qs_hates, .ref qs_near]))]) C hw iwX5 tyX5_ok nmX5 4 rfl 0 rfl 4 (by decide) kw160 rfl rfl rfl (Nat.le_of_ble_eq_true rfl) rfl dX5_clear_22 (fun H locs hw => ?_)
  refine lv_aload_n C.1 C.2.1 dX5_clear_25 rfl (lv_at hl 0 rfl) ?_
  refine lv_iconst (v := 0) C.1 C.2.1 dX5_clear_26 (by decide) ?_
  refine x_put (w' := [(qs, .inr (4, [.int 0, .int 0, .int 0, .int 0, .int 1, .int 0, .int qs_lamp, .int qs_behind, .int qs_settingsTold, .ref qs_slideNames, .ref qs_pictures, .ref qs_heats, .ref qs_after, .ref qs_hearerNames, .ref qs_needs, .ref qs_likes, .ref qs_hates, .ref qs_near]))]) C hw iwX5 tyX5_ok nmX5 4 rfl 0 rfl 5 (by decide) kw162 rfl rfl rfl (Nat.le_of_ble_eq_true rfl) rfl dX5_clear_27 (fun H locs hw => ?_)
  refine lv_aload_n C.1 C.2.1 dX5_clear_30 rfl (lv_at hl 0 rfl) ?_
  refine lv_bipush (v := 40) C.1 C.2.1 dX5_clear_31 (by decide) ?_
  refine x_put (w' := [(qs, .inr (4, [.int 0, .int 0, .int 0, .int 0, .int 1, .int 0, .int 40, .int qs_behind, .int qs_settingsTold, .ref qs_slideNames, .ref qs_pictures, .ref qs_heats, .ref qs_after, .ref qs_hearerNames, .ref qs_needs, .ref qs_likes, .ref qs_hates, .ref qs_near]))]) C hw iwX5 tyX5_ok nmX5 4 rfl 0 rfl 6 (by decide) kw164 rfl rfl rfl (Nat.le_of_ble_eq_true rfl) rfl dX5_clear_33 (fun H locs hw => ?_)
  refine lv_aload_n C.1 C.2.1 dX5_clear_36 rfl (lv_at hl 0 rfl) ?_
  refine lv_iconst (v := 0) C.1 C.2.1 dX5_clear_37 (by decide) ?_
  refine x_put (w' := [(qs, .inr (4, [.int 0, .int 0, .int 0, .int 0, .int 1, .int 0, .int 40, .int 0, .int qs_settingsTold, .ref qs_slideNames, .ref qs_pictures, .ref qs_heats, .ref qs_after, .ref qs_hearerNames, .ref qs_needs, .ref qs_likes, .ref qs_hates, .ref qs_near]))]) C hw iwX5 tyX5_ok nmX5 4 rfl 0 rfl 7 (by decide) kw169 rfl rfl rfl (Nat.le_of_ble_eq_true rfl) rfl dX5_clear_38 (fun H locs hw => ?_)
  refine lv_aload_n C.1 C.2.1 dX5_clear_41 rfl (lv_at hl 0 rfl) ?_
  refine lv_iconst (v := 0) C.1 C.2.1 dX5_clear_42 (by decide) ?_
  refine x_put (w' := [(qs, .inr (4, [.int 0, .int 0, .int 0, .int 0, .int 1, .int 0, .int 40, .int 0, .int 0, .ref qs_slideNames, .ref qs_pictures, .ref qs_heats, .ref qs_after, .ref qs_hearerNames, .ref qs_needs, .ref qs_likes, .ref qs_hates, .ref qs_near]))]) C hw iwX5 tyX5_ok nmX5 4 rfl 0 rfl 8 (by decide) kw170 rfl rfl rfl (Nat.le_of_ble_eq_true rfl) rfl dX5_clear_43 (fun H locs hw => ?_)
  exact x_retvQ hQ B hw rfl (Nat.le_of_ble_eq_true rfl) (Nat.le_of_ble_eq_true rfl) dX5_clear_46
theorem dX5_copyFrom_0 : decode cX5_copyFrom 0 = .ok (.aload_n 0, 1) := by decide +kernel
theorem dX5_copyFrom_1 : decode cX5_copyFrom 1 = .ok (.aload_n 1, 1) := by decide +kernel
theorem dX5_copyFrom_2 : decode cX5_copyFrom 2 = .ok (.getfield 47, 3) := by decide +kernel
theorem dX5_copyFrom_5 : decode cX5_copyFrom 5 = .ok (.putfield 47, 3) := by decide +kernel
theorem dX5_copyFrom_8 : decode cX5_copyFrom 8 = .ok (.aload_n 0, 1) := by decide +kernel
theorem dX5_copyFrom_9 : decode cX5_copyFrom 9 = .ok (.aload_n 1, 1) := by decide +kernel
theorem dX5_copyFrom_10 : decode cX5_copyFrom 10 = .ok (.getfield 50, 3) := by decide +kernel
theorem dX5_copyFrom_13 : decode cX5_copyFrom 13 = .ok (.putfield 50, 3) := by decide +kernel
theorem dX5_copyFrom_16 : decode cX5_copyFrom 16 = .ok (.aload_n 0, 1) := by decide +kernel
theorem dX5_copyFrom_17 : decode cX5_copyFrom 17 = .ok (.aload_n 1, 1) := by decide +kernel
theorem dX5_copyFrom_18 : decode cX5_copyFrom 18 = .ok (.getfield 53, 3) := by decide +kernel
theorem dX5_copyFrom_21 : decode cX5_copyFrom 21 = .ok (.putfield 53, 3) := by decide +kernel
theorem dX5_copyFrom_24 : decode cX5_copyFrom 24 = .ok (.aload_n 0, 1) := by decide +kernel
theorem dX5_copyFrom_25 : decode cX5_copyFrom 25 = .ok (.aload_n 1, 1) := by decide +kernel
theorem dX5_copyFrom_26 : decode cX5_copyFrom 26 = .ok (.getfield 56, 3) := by decide +kernel
theorem dX5_copyFrom_29 : decode cX5_copyFrom 29 = .ok (.putfield 56, 3) := by decide +kernel
theorem dX5_copyFrom_32 : decode cX5_copyFrom 32 = .ok (.aload_n 0, 1) := by decide +kernel
theorem dX5_copyFrom_33 : decode cX5_copyFrom 33 = .ok (.aload_n 1, 1) := by decide +kernel
theorem dX5_copyFrom_34 : decode cX5_copyFrom 34 = .ok (.getfield 9, 3) := by decide +kernel
theorem dX5_copyFrom_37 : decode cX5_copyFrom 37 = .ok (.putfield 9, 3) := by decide +kernel
theorem dX5_copyFrom_40 : decode cX5_copyFrom 40 = .ok (.aload_n 0, 1) := by decide +kernel
theorem dX5_copyFrom_41 : decode cX5_copyFrom 41 = .ok (.aload_n 1, 1) := by decide +kernel
theorem dX5_copyFrom_42 : decode cX5_copyFrom 42 = .ok (.getfield 59, 3) := by decide +kernel
theorem dX5_copyFrom_45 : decode cX5_copyFrom 45 = .ok (.putfield 59, 3) := by decide +kernel
theorem dX5_copyFrom_48 : decode cX5_copyFrom 48 = .ok (.aload_n 0, 1) := by decide +kernel
theorem dX5_copyFrom_49 : decode cX5_copyFrom 49 = .ok (.aload_n 1, 1) := by decide +kernel
theorem dX5_copyFrom_50 : decode cX5_copyFrom 50 = .ok (.getfield 15, 3) := by decide +kernel
theorem dX5_copyFrom_53 : decode cX5_copyFrom 53 = .ok (.putfield 15, 3) := by decide +kernel
theorem dX5_copyFrom_56 : decode cX5_copyFrom 56 = .ok (.aload_n 0, 1) := by decide +kernel
theorem dX5_copyFrom_57 : decode cX5_copyFrom 57 = .ok (.aload_n 1, 1) := by decide +kernel
theorem dX5_copyFrom_58 : decode cX5_copyFrom 58 = .ok (.getfield 62, 3) := by decide +kernel
theorem dX5_copyFrom_61 : decode cX5_copyFrom 61 = .ok (.putfield 62, 3) := by decide +kernel
theorem dX5_copyFrom_64 : decode cX5_copyFrom 64 = .ok (.aload_n 1, 1) := by decide +kernel
theorem dX5_copyFrom_65 : decode cX5_copyFrom 65 = .ok (.getfield 18, 3) := by decide +kernel
theorem dX5_copyFrom_68 : decode cX5_copyFrom 68 = .ok (.iconst 0, 1) := by decide +kernel
theorem dX5_copyFrom_69 : decode cX5_copyFrom 69 = .ok (.aload_n 0, 1) := by decide +kernel
theorem dX5_copyFrom_70 : decode cX5_copyFrom 70 = .ok (.getfield 18, 3) := by decide +kernel
theorem dX5_copyFrom_73 : decode cX5_copyFrom 73 = .ok (.iconst 0, 1) := by decide +kernel
theorem dX5_copyFrom_74 : decode cX5_copyFrom 74 = .ok (.bipush 6, 2) := by decide +kernel
theorem dX5_copyFrom_76 : decode cX5_copyFrom 76 = .ok (.invokestatic 68, 3) := by decide +kernel
theorem dX5_copyFrom_79 : decode cX5_copyFrom 79 = .ok (.aload_n 1, 1) := by decide +kernel
theorem dX5_copyFrom_80 : decode cX5_copyFrom 80 = .ok (.getfield 22, 3) := by decide +kernel
theorem dX5_copyFrom_83 : decode cX5_copyFrom 83 = .ok (.iconst 0, 1) := by decide +kernel
theorem dX5_copyFrom_84 : decode cX5_copyFrom 84 = .ok (.aload_n 0, 1) := by decide +kernel
theorem dX5_copyFrom_85 : decode cX5_copyFrom 85 = .ok (.getfield 22, 3) := by decide +kernel
theorem dX5_copyFrom_88 : decode cX5_copyFrom 88 = .ok (.iconst 0, 1) := by decide +kernel
theorem dX5_copyFrom_89 : decode cX5_copyFrom 89 = .ok (.bipush 6, 2) := by decide +kernel
theorem dX5_copyFrom_91 : decode cX5_copyFrom 91 = .ok (.invokestatic 68, 3) := by decide +kernel
theorem dX5_copyFrom_94 : decode cX5_copyFrom 94 = .ok (.aload_n 1, 1) := by decide +kernel
theorem dX5_copyFrom_95 : decode cX5_copyFrom 95 = .ok (.getfield 26, 3) := by decide +kernel
theorem dX5_copyFrom_98 : decode cX5_copyFrom 98 = .ok (.iconst 0, 1) := by decide +kernel
theorem dX5_copyFrom_99 : decode cX5_copyFrom 99 = .ok (.aload_n 0, 1) := by decide +kernel
theorem dX5_copyFrom_100 : decode cX5_copyFrom 100 = .ok (.getfield 26, 3) := by decide +kernel
theorem dX5_copyFrom_103 : decode cX5_copyFrom 103 = .ok (.iconst 0, 1) := by decide +kernel
theorem dX5_copyFrom_104 : decode cX5_copyFrom 104 = .ok (.bipush 6, 2) := by decide +kernel
theorem dX5_copyFrom_106 : decode cX5_copyFrom 106 = .ok (.invokestatic 68, 3) := by decide +kernel
theorem dX5_copyFrom_109 : decode cX5_copyFrom 109 = .ok (.aload_n 1, 1) := by decide +kernel
theorem dX5_copyFrom_110 : decode cX5_copyFrom 110 = .ok (.getfield 29, 3) := by decide +kernel
theorem dX5_copyFrom_113 : decode cX5_copyFrom 113 = .ok (.iconst 0, 1) := by decide +kernel
theorem dX5_copyFrom_114 : decode cX5_copyFrom 114 = .ok (.aload_n 0, 1) := by decide +kernel
theorem dX5_copyFrom_115 : decode cX5_copyFrom 115 = .ok (.getfield 29, 3) := by decide +kernel
theorem dX5_copyFrom_118 : decode cX5_copyFrom 118 = .ok (.iconst 0, 1) := by decide +kernel
theorem dX5_copyFrom_119 : decode cX5_copyFrom 119 = .ok (.bipush 6, 2) := by decide +kernel
theorem dX5_copyFrom_121 : decode cX5_copyFrom 121 = .ok (.invokestatic 68, 3) := by decide +kernel
theorem dX5_copyFrom_124 : decode cX5_copyFrom 124 = .ok (.aload_n 1, 1) := by decide +kernel
theorem dX5_copyFrom_125 : decode cX5_copyFrom 125 = .ok (.getfield 32, 3) := by decide +kernel
theorem dX5_copyFrom_128 : decode cX5_copyFrom 128 = .ok (.iconst 0, 1) := by decide +kernel
theorem dX5_copyFrom_129 : decode cX5_copyFrom 129 = .ok (.aload_n 0, 1) := by decide +kernel
theorem dX5_copyFrom_130 : decode cX5_copyFrom 130 = .ok (.getfield 32, 3) := by decide +kernel
theorem dX5_copyFrom_133 : decode cX5_copyFrom 133 = .ok (.iconst 0, 1) := by decide +kernel
theorem dX5_copyFrom_134 : decode cX5_copyFrom 134 = .ok (.bipush 8, 2) := by decide +kernel
theorem dX5_copyFrom_136 : decode cX5_copyFrom 136 = .ok (.invokestatic 68, 3) := by decide +kernel
theorem dX5_copyFrom_139 : decode cX5_copyFrom 139 = .ok (.aload_n 1, 1) := by decide +kernel
theorem dX5_copyFrom_140 : decode cX5_copyFrom 140 = .ok (.getfield 35, 3) := by decide +kernel
theorem dX5_copyFrom_143 : decode cX5_copyFrom 143 = .ok (.iconst 0, 1) := by decide +kernel
theorem dX5_copyFrom_144 : decode cX5_copyFrom 144 = .ok (.aload_n 0, 1) := by decide +kernel
theorem dX5_copyFrom_145 : decode cX5_copyFrom 145 = .ok (.getfield 35, 3) := by decide +kernel
theorem dX5_copyFrom_148 : decode cX5_copyFrom 148 = .ok (.iconst 0, 1) := by decide +kernel
theorem dX5_copyFrom_149 : decode cX5_copyFrom 149 = .ok (.bipush 8, 2) := by decide +kernel
theorem dX5_copyFrom_151 : decode cX5_copyFrom 151 = .ok (.invokestatic 68, 3) := by decide +kernel
theorem dX5_copyFrom_154 : decode cX5_copyFrom 154 = .ok (.aload_n 1, 1) := by decide +kernel
theorem dX5_copyFrom_155 : decode cX5_copyFrom 155 = .ok (.getfield 38, 3) := by decide +kernel
theorem dX5_copyFrom_158 : decode cX5_copyFrom 158 = .ok (.iconst 0, 1) := by decide +kernel
theorem dX5_copyFrom_159 : decode cX5_copyFrom 159 = .ok (.aload_n 0, 1) := by decide +kernel
theorem dX5_copyFrom_160 : decode cX5_copyFrom 160 = .ok (.getfield 38, 3) := by decide +kernel
theorem dX5_copyFrom_163 : decode cX5_copyFrom 163 = .ok (.iconst 0, 1) := by decide +kernel
theorem dX5_copyFrom_164 : decode cX5_copyFrom 164 = .ok (.bipush 8, 2) := by decide +kernel
theorem dX5_copyFrom_166 : decode cX5_copyFrom 166 = .ok (.invokestatic 68, 3) := by decide +kernel
theorem dX5_copyFrom_169 : decode cX5_copyFrom 169 = .ok (.aload_n 1, 1) := by decide +kernel
theorem dX5_copyFrom_170 : decode cX5_copyFrom 170 = .ok (.getfield 41, 3) := by decide +kernel
theorem dX5_copyFrom_173 : decode cX5_copyFrom 173 = .ok (.iconst 0, 1) := by decide +kernel
theorem dX5_copyFrom_174 : decode cX5_copyFrom 174 = .ok (.aload_n 0, 1) := by decide +kernel
theorem dX5_copyFrom_175 : decode cX5_copyFrom 175 = .ok (.getfield 41, 3) := by decide +kernel
theorem dX5_copyFrom_178 : decode cX5_copyFrom 178 = .ok (.iconst 0, 1) := by decide +kernel
theorem dX5_copyFrom_179 : decode cX5_copyFrom 179 = .ok (.bipush 8, 2) := by decide +kernel
theorem dX5_copyFrom_181 : decode cX5_copyFrom 181 = .ok (.invokestatic 68, 3) := by decide +kernel
theorem dX5_copyFrom_184 : decode cX5_copyFrom 184 = .ok (.aload_n 1, 1) := by decide +kernel
theorem dX5_copyFrom_185 : decode cX5_copyFrom 185 = .ok (.getfield 44, 3) := by decide +kernel
theorem dX5_copyFrom_188 : decode cX5_copyFrom 188 = .ok (.iconst 0, 1) := by decide +kernel
theorem dX5_copyFrom_189 : decode cX5_copyFrom 189 = .ok (.aload_n 0, 1) := by decide +kernel
theorem dX5_copyFrom_190 : decode cX5_copyFrom 190 = .ok (.getfield 44, 3) := by decide +kernel
theorem dX5_copyFrom_193 : decode cX5_copyFrom 193 = .ok (.iconst 0, 1) := by decide +kernel
theorem dX5_copyFrom_194 : decode cX5_copyFrom 194 = .ok (.bipush 8, 2) := by decide +kernel
theorem dX5_copyFrom_196 : decode cX5_copyFrom 196 = .ok (.invokestatic 68, 3) := by decide +kernel
theorem dX5_copyFrom_199 : decode cX5_copyFrom 199 = .ok (.return_, 1) := by decide +kernel
set_option maxHeartbeats 4000000 in
set_option maxRecDepth 100000 in
theorem s_X5_copyFrom {l : Launch} {G : Gc} (qs : Nat) (qo : Nat) (qs_slides : Int32) (qs_hearers : Int32) (qs_nears : Int32) (qs_lines : Int32) (qs_pass : Int32) (qs_spread : Int32) (qs_lamp : Int32) (qs_behind : Int32) (qs_settingsTold : Int32) (qs_slideNames : Nat) (qs_pictures : Nat) (qs_heats : Nat) (qs_after : Nat) (qs_hearerNames : Nat) (qs_needs : Nat) (qs_likes : Nat) (qs_hates : Nat) (qs_near : Nat) (qs_slideNames_c : Nat → Int64) (qs_pictures_c : Nat → Int32) (qs_heats_c : Nat → Int32) (qs_after_c : Nat → Int32) (qs_hearerNames_c : Nat → Int64) (qs_needs_c : Nat → Int32) (qs_likes_c : Nat → Int32) (qs_hates_c : Nat → Int32) (qs_near_c : Nat → Int32) (qo_slides : Int32) (qo_hearers : Int32) (qo_nears : Int32) (qo_lines : Int32) (qo_pass : Int32) (qo_spread : Int32) (qo_lamp : Int32) (qo_behind : Int32) (qo_settingsTold : Int32) (qo_slideNames : Nat) (qo_pictures : Nat) (qo_heats : Nat) (qo_after : Nat) (qo_hearerNames : Nat) (qo_needs : Nat) (qo_likes : Nat) (qo_hates : Nat) (qo_near : Nat) (qo_slideNames_c : Nat → Int64) (qo_pictures_c : Nat → Int32) (qo_heats_c : Nat → Int32) (qo_after_c : Nat → Int32) (qo_hearerNames_c : Nat → Int64) (qo_needs_c : Nat → Int32) (qo_likes_c : Nat → Int32) (qo_hates_c : Nat → Int32) (qo_near_c : Nat → Int32) (hf_qs_after_c : inA 6 (-1) 5 qs_after_c) (hi_qo_slides : 0 ≤ qo_slides.toInt ∧ qo_slides.toInt ≤ 6) (hi_qo_hearers : 0 ≤ qo_hearers.toInt ∧ qo_hearers.toInt ≤ 8) (hf_qo_after_c : inA 6 (-1) 5 qo_after_c) : Cv l yX5_copyFrom cX5_copyFrom 2 1 0 0 G [.ref qs, .ref qo] [(qs, .inr (4, [.int qs_slides, .int qs_hearers, .int qs_nears, .int qs_lines, .int qs_pass, .int qs_spread, .int qs_lamp, .int qs_behind, .int qs_settingsTold, .ref qs_slideNames, .ref qs_pictures, .ref qs_heats, .ref qs_after, .ref qs_hearerNames, .ref qs_needs, .ref qs_likes, .ref qs_hates, .ref qs_near])), (qs_slideNames, eJ G 6 qs_slideNames_c), (qs_pictures, eI G 6 qs_pictures_c), (qs_heats, eI G 6 qs_heats_c), (qs_after, eI G 6 qs_after_c), (qs_hearerNames, eJ G 8 qs_hearerNames_c), (qs_needs, eI G 8 qs_needs_c), (qs_likes, eI G 8 qs_likes_c), (qs_hates, eI G 8 qs_hates_c), (qs_near, eI G 8 qs_near_c), (qo, .inr (4, [.int qo_slides, .int qo_hearers, .int qo_nears, .int qo_lines, .int qo_pass, .int qo_spread, .int qo_lamp, .int qo_behind, .int qo_settingsTold, .ref qo_slideNames, .ref qo_pictures, .ref qo_heats, .ref qo_after, .ref qo_hearerNames, .ref qo_needs, .ref qo_likes, .ref qo_hates, .ref qo_near])), (qo_slideNames, eJ G 6 qo_slideNames_c), (qo_pictures, eI G 6 qo_pictures_c), (qo_heats, eI G 6 qo_heats_c), (qo_after, eI G 6 qo_after_c), (qo_hearerNames, eJ G 8 qo_hearerNames_c), (qo_needs, eI G 8 qo_needs_c), (qo_likes, eI G 8 qo_likes_c), (qo_hates, eI G 8 qo_hates_c), (qo_near, eI G 8 qo_near_c)] (fun (u9 : va_W) => ∃ (x0_qs_slideNames_c : Nat → Int64) (x1_qs_pictures_c : Nat → Int32) (x2_qs_heats_c : Nat → Int32) (x3_qs_after_c : Nat → Int32) (x4_qs_hearerNames_c : Nat → Int64) (x5_qs_needs_c : Nat → Int32) (x6_qs_likes_c : Nat → Int32) (x7_qs_hates_c : Nat → Int32) (x8_qs_near_c : Nat → Int32), u9 = [(qs, .inr (4, [.int qo_slides, .int qo_hearers, .int qo_nears, .int qo_lines, .int qo_pass, .int qo_spread, .int qo_lamp, .int qo_behind, .int qs_settingsTold, .ref qs_slideNames, .ref qs_pictures, .ref qs_heats, .ref qs_after, .ref qs_hearerNames, .ref qs_needs, .ref qs_likes, .ref qs_hates, .ref qs_near])), (qs_slideNames, eJ G 6 x0_qs_slideNames_c), (qs_pictures, eI G 6 x1_qs_pictures_c), (qs_heats, eI G 6 x2_qs_heats_c), (qs_after, eI G 6 x3_qs_after_c), (qs_hearerNames, eJ G 8 x4_qs_hearerNames_c), (qs_needs, eI G 8 x5_qs_needs_c), (qs_likes, eI G 8 x6_qs_likes_c), (qs_hates, eI G 8 x7_qs_hates_c), (qs_near, eI G 8 x8_qs_near_c), (qo, .inr (4, [.int qo_slides, .int qo_hearers, .int qo_nears, .int qo_lines, .int qo_pass, .int qo_spread, .int qo_lamp, .int qo_behind, .int qo_settingsTold, .ref qo_slideNames, .ref qo_pictures, .ref qo_heats, .ref qo_after, .ref qo_hearerNames, .ref qo_needs, .ref qo_likes, .ref qo_hates, .ref qo_near])), (qo_slideNames, eJ G 6 qo_slideNames_c), (qo_pictures, eI G 6 qo_pictures_c), (qo_heats, eI G 6 qo_heats_c), (qo_after, eI G 6 qo_after_c), (qo_hearerNames, eJ G 8 qo_hearerNames_c), (qo_needs, eI G 8 qo_needs_c), (qo_likes, eI G 8 qo_likes_c), (qo_hates, eI G 8 qo_hates_c), (qo_near, eI G 8 qo_near_c)] ∧ (inA 6 (-1) 5 x3_qs_after_c)) := by
  refine Cv.ofQ (by decide) (Nat.le_of_ble_eq_true rfl) ?_
  intro p e s m below meth c ls A args Q hQ B hw hl
  have C : CallFix p m c cX5_copyFrom 2 s args gw "LanternState$Scene" := B.1
  have hl : lv_has ls 2 [(0, .ref qs), (1, .ref qo)] := hl
  refine lv_aload_n C.1 C.2.1 dX5_copyFrom_0 rfl (lv_at hl 0 rfl) ?_
  refine lv_aload_n C.1 C.2.1 dX5_copyFrom_1 rfl (lv_at hl 1 rfl) ?_
  refine x_get C hw iwX5 4 rfl 10 rfl 0 (by decide) kw147 rfl dX5_copyFrom_2 ?_
  refine x_put (w' := [(qs, .inr (4, [.int qo_slides, .int qs_hearers, .int qs_nears, .int qs_lines, .int qs_pass, .int qs_spread, .int qs_lamp, .int qs_behind, .int qs_settingsTold, .ref qs_slideNames, .ref qs_pictures, .ref qs_heats, .ref qs_after, .ref qs_hearerNames, .ref qs_needs, .ref qs_likes, .ref qs_hates, .ref qs_near])), (qs_slideNames, eJ G 6 qs_slideNames_c), (qs_pictures, eI G 6 qs_pictures_c), (qs_heats, eI G 6 qs_heats_c), (qs_after, eI G 6 qs_after_c), (qs_hearerNames, eJ G 8 qs_hearerNames_c), (qs_needs, eI G 8 qs_needs_c), (qs_likes, eI G 8 qs_likes_c), (qs_hates, eI G 8 qs_hates_c), (qs_near, eI G 8 qs_near_c), (qo, .inr (4, [.int qo_slides, .int qo_hearers, .int qo_nears, .int qo_lines, .int qo_pass, .int qo_spread, .int qo_lamp, .int qo_behind, .int qo_settingsTold, .ref qo_slideNames, .ref qo_pictures, .ref qo_heats, .ref qo_after, .ref qo_hearerNames, .ref qo_needs, .ref qo_likes, .ref qo_hates, .ref qo_near])), (qo_slideNames, eJ G 6 qo_slideNames_c), (qo_pictures, eI G 6 qo_pictures_c), (qo_heats, eI G 6 qo_heats_c), (qo_after, eI G 6 qo_after_c), (qo_hearerNames, eJ G 8 qo_hearerNames_c), (qo_needs, eI G 8 qo_needs_c), (qo_likes, eI G 8 qo_likes_c), (qo_hates, eI G 8 qo_hates_c), (qo_near, eI G 8 qo_near_c)]) C hw iwX5 tyX5_ok nmX5 4 rfl 0 rfl 0 (by decide) kw147 rfl rfl rfl (Nat.le_of_ble_eq_true rfl) rfl dX5_copyFrom_5 (fun H locs hw => ?_)
  refine lv_aload_n C.1 C.2.1 dX5_copyFrom_8 rfl (lv_at hl 0 rfl) ?_
  refine lv_aload_n C.1 C.2.1 dX5_copyFrom_9 rfl (lv_at hl 1 rfl) ?_
  refine x_get C hw iwX5 4 rfl 10 rfl 1 (by decide) kw152 rfl dX5_copyFrom_10 ?_
  refine x_put (w' := [(qs, .inr (4, [.int qo_slides, .int qo_hearers, .int qs_nears, .int qs_lines, .int qs_pass, .int qs_spread, .int qs_lamp, .int qs_behind, .int qs_settingsTold, .ref qs_slideNames, .ref qs_pictures, .ref qs_heats, .ref qs_after, .ref qs_hearerNames, .ref qs_needs, .ref qs_likes, .ref qs_hates, .ref qs_near])), (qs_slideNames, eJ G 6 qs_slideNames_c), (qs_pictures, eI G 6 qs_pictures_c), (qs_heats, eI G 6 qs_heats_c), (qs_after, eI G 6 qs_after_c), (qs_hearerNames, eJ G 8 qs_hearerNames_c), (qs_needs, eI G 8 qs_needs_c), (qs_likes, eI G 8 qs_likes_c), (qs_hates, eI G 8 qs_hates_c), (qs_near, eI G 8 qs_near_c), (qo, .inr (4, [.int qo_slides, .int qo_hearers, .int qo_nears, .int qo_lines, .int qo_pass, .int qo_spread, .int qo_lamp, .int qo_behind, .int qo_settingsTold, .ref qo_slideNames, .ref qo_pictures, .ref qo_heats, .ref qo_after, .ref qo_hearerNames, .ref qo_needs, .ref qo_likes, .ref qo_hates, .ref qo_near])), (qo_slideNames, eJ G 6 qo_slideNames_c), (qo_pictures, eI G 6 qo_pictures_c), (qo_heats, eI G 6 qo_heats_c), (qo_after, eI G 6 qo_after_c), (qo_hearerNames, eJ G 8 qo_hearerNames_c), (qo_needs, eI G 8 qo_needs_c), (qo_likes, eI G 8 qo_likes_c), (qo_hates, eI G 8 qo_hates_c), (qo_near, eI G 8 qo_near_c)]) C hw iwX5 tyX5_ok nmX5 4 rfl 0 rfl 1 (by decide) kw152 rfl rfl rfl (Nat.le_of_ble_eq_true rfl) rfl dX5_copyFrom_13 (fun H locs hw => ?_)
  refine lv_aload_n C.1 C.2.1 dX5_copyFrom_16 rfl (lv_at hl 0 rfl) ?_
  refine lv_aload_n C.1 C.2.1 dX5_copyFrom_17 rfl (lv_at hl 1 rfl) ?_
  refine x_get C hw iwX5 4 rfl 10 rfl 2 (by decide) kw156 rfl dX5_copyFrom_18 ?_
  refine x_put (w' := [(qs, .inr (4, [.int qo_slides, .int qo_hearers, .int qo_nears, .int qs_lines, .int qs_pass, .int qs_spread, .int qs_lamp, .int qs_behind, .int qs_settingsTold, .ref qs_slideNames, .ref qs_pictures, .ref qs_heats, .ref qs_after, .ref qs_hearerNames, .ref qs_needs, .ref qs_likes, .ref qs_hates, .ref qs_near])), (qs_slideNames, eJ G 6 qs_slideNames_c), (qs_pictures, eI G 6 qs_pictures_c), (qs_heats, eI G 6 qs_heats_c), (qs_after, eI G 6 qs_after_c), (qs_hearerNames, eJ G 8 qs_hearerNames_c), (qs_needs, eI G 8 qs_needs_c), (qs_likes, eI G 8 qs_likes_c), (qs_hates, eI G 8 qs_hates_c), (qs_near, eI G 8 qs_near_c), (qo, .inr (4, [.int qo_slides, .int qo_hearers, .int qo_nears, .int qo_lines, .int qo_pass, .int qo_spread, .int qo_lamp, .int qo_behind, .int qo_settingsTold, .ref qo_slideNames, .ref qo_pictures, .ref qo_heats, .ref qo_after, .ref qo_hearerNames, .ref qo_needs, .ref qo_likes, .ref qo_hates, .ref qo_near])), (qo_slideNames, eJ G 6 qo_slideNames_c), (qo_pictures, eI G 6 qo_pictures_c), (qo_heats, eI G 6 qo_heats_c), (qo_after, eI G 6 qo_after_c), (qo_hearerNames, eJ G 8 qo_hearerNames_c), (qo_needs, eI G 8 qo_needs_c), (qo_likes, eI G 8 qo_likes_c), (qo_hates, eI G 8 qo_hates_c), (qo_near, eI G 8 qo_near_c)]) C hw iwX5 tyX5_ok nmX5 4 rfl 0 rfl 2 (by decide) kw156 rfl rfl rfl (Nat.le_of_ble_eq_true rfl) rfl dX5_copyFrom_21 (fun H locs hw => ?_)
  refine lv_aload_n C.1 C.2.1 dX5_copyFrom_24 rfl (lv_at hl 0 rfl) ?_
  refine lv_aload_n C.1 C.2.1 dX5_copyFrom_25 rfl (lv_at hl 1 rfl) ?_
  refine x_get C hw iwX5 4 rfl 10 rfl 3 (by decide) kw158 rfl dX5_copyFrom_26 ?_
  refine x_put (w' := [(qs, .inr (4, [.int qo_slides, .int qo_hearers, .int qo_nears, .int qo_lines, .int qs_pass, .int qs_spread, .int qs_lamp, .int qs_behind, .int qs_settingsTold, .ref qs_slideNames, .ref qs_pictures, .ref qs_heats, .ref qs_after, .ref qs_hearerNames, .ref qs_needs, .ref qs_likes, .ref qs_hates, .ref qs_near])), (qs_slideNames, eJ G 6 qs_slideNames_c), (qs_pictures, eI G 6 qs_pictures_c), (qs_heats, eI G 6 qs_heats_c), (qs_after, eI G 6 qs_after_c), (qs_hearerNames, eJ G 8 qs_hearerNames_c), (qs_needs, eI G 8 qs_needs_c), (qs_likes, eI G 8 qs_likes_c), (qs_hates, eI G 8 qs_hates_c), (qs_near, eI G 8 qs_near_c), (qo, .inr (4, [.int qo_slides, .int qo_hearers, .int qo_nears, .int qo_lines, .int qo_pass, .int qo_spread, .int qo_lamp, .int qo_behind, .int qo_settingsTold, .ref qo_slideNames, .ref qo_pictures, .ref qo_heats, .ref qo_after, .ref qo_hearerNames, .ref qo_needs, .ref qo_likes, .ref qo_hates, .ref qo_near])), (qo_slideNames, eJ G 6 qo_slideNames_c), (qo_pictures, eI G 6 qo_pictures_c), (qo_heats, eI G 6 qo_heats_c), (qo_after, eI G 6 qo_after_c), (qo_hearerNames, eJ G 8 qo_hearerNames_c), (qo_needs, eI G 8 qo_needs_c), (qo_likes, eI G 8 qo_likes_c), (qo_hates, eI G 8 qo_hates_c), (qo_near, eI G 8 qo_near_c)]) C hw iwX5 tyX5_ok nmX5 4 rfl 0 rfl 3 (by decide) kw158 rfl rfl rfl (Nat.le_of_ble_eq_true rfl) rfl dX5_copyFrom_29 (fun H locs hw => ?_)
  refine lv_aload_n C.1 C.2.1 dX5_copyFrom_32 rfl (lv_at hl 0 rfl) ?_
  refine lv_aload_n C.1 C.2.1 dX5_copyFrom_33 rfl (lv_at hl 1 rfl) ?_
  refine x_get C hw iwX5 4 rfl 10 rfl 4 (by decide) kw160 rfl dX5_copyFrom_34 ?_
  refine x_put (w' := [(qs, .inr (4, [.int qo_slides, .int qo_hearers, .int qo_nears, .int qo_lines, .int qo_pass, .int qs_spread, .int qs_lamp, .int qs_behind, .int qs_settingsTold, .ref qs_slideNames, .ref qs_pictures, .ref qs_heats, .ref qs_after, .ref qs_hearerNames, .ref qs_needs, .ref qs_likes, .ref qs_hates, .ref qs_near])), (qs_slideNames, eJ G 6 qs_slideNames_c), (qs_pictures, eI G 6 qs_pictures_c), (qs_heats, eI G 6 qs_heats_c), (qs_after, eI G 6 qs_after_c), (qs_hearerNames, eJ G 8 qs_hearerNames_c), (qs_needs, eI G 8 qs_needs_c), (qs_likes, eI G 8 qs_likes_c), (qs_hates, eI G 8 qs_hates_c), (qs_near, eI G 8 qs_near_c), (qo, .inr (4, [.int qo_slides, .int qo_hearers, .int qo_nears, .int qo_lines, .int qo_pass, .int qo_spread, .int qo_lamp, .int qo_behind, .int qo_settingsTold, .ref qo_slideNames, .ref qo_pictures, .ref qo_heats, .ref qo_after, .ref qo_hearerNames, .ref qo_needs, .ref qo_likes, .ref qo_hates, .ref qo_near])), (qo_slideNames, eJ G 6 qo_slideNames_c), (qo_pictures, eI G 6 qo_pictures_c), (qo_heats, eI G 6 qo_heats_c), (qo_after, eI G 6 qo_after_c), (qo_hearerNames, eJ G 8 qo_hearerNames_c), (qo_needs, eI G 8 qo_needs_c), (qo_likes, eI G 8 qo_likes_c), (qo_hates, eI G 8 qo_hates_c), (qo_near, eI G 8 qo_near_c)]) C hw iwX5 tyX5_ok nmX5 4 rfl 0 rfl 4 (by decide) kw160 rfl rfl rfl (Nat.le_of_ble_eq_true rfl) rfl dX5_copyFrom_37 (fun H locs hw => ?_)
  refine lv_aload_n C.1 C.2.1 dX5_copyFrom_40 rfl (lv_at hl 0 rfl) ?_
  refine lv_aload_n C.1 C.2.1 dX5_copyFrom_41 rfl (lv_at hl 1 rfl) ?_
  refine x_get C hw iwX5 4 rfl 10 rfl 5 (by decide) kw162 rfl dX5_copyFrom_42 ?_
  refine x_put (w' := [(qs, .inr (4, [.int qo_slides, .int qo_hearers, .int qo_nears, .int qo_lines, .int qo_pass, .int qo_spread, .int qs_lamp, .int qs_behind, .int qs_settingsTold, .ref qs_slideNames, .ref qs_pictures, .ref qs_heats, .ref qs_after, .ref qs_hearerNames, .ref qs_needs, .ref qs_likes, .ref qs_hates, .ref qs_near])), (qs_slideNames, eJ G 6 qs_slideNames_c), (qs_pictures, eI G 6 qs_pictures_c), (qs_heats, eI G 6 qs_heats_c), (qs_after, eI G 6 qs_after_c), (qs_hearerNames, eJ G 8 qs_hearerNames_c), (qs_needs, eI G 8 qs_needs_c), (qs_likes, eI G 8 qs_likes_c), (qs_hates, eI G 8 qs_hates_c), (qs_near, eI G 8 qs_near_c), (qo, .inr (4, [.int qo_slides, .int qo_hearers, .int qo_nears, .int qo_lines, .int qo_pass, .int qo_spread, .int qo_lamp, .int qo_behind, .int qo_settingsTold, .ref qo_slideNames, .ref qo_pictures, .ref qo_heats, .ref qo_after, .ref qo_hearerNames, .ref qo_needs, .ref qo_likes, .ref qo_hates, .ref qo_near])), (qo_slideNames, eJ G 6 qo_slideNames_c), (qo_pictures, eI G 6 qo_pictures_c), (qo_heats, eI G 6 qo_heats_c), (qo_after, eI G 6 qo_after_c), (qo_hearerNames, eJ G 8 qo_hearerNames_c), (qo_needs, eI G 8 qo_needs_c), (qo_likes, eI G 8 qo_likes_c), (qo_hates, eI G 8 qo_hates_c), (qo_near, eI G 8 qo_near_c)]) C hw iwX5 tyX5_ok nmX5 4 rfl 0 rfl 5 (by decide) kw162 rfl rfl rfl (Nat.le_of_ble_eq_true rfl) rfl dX5_copyFrom_45 (fun H locs hw => ?_)
  refine lv_aload_n C.1 C.2.1 dX5_copyFrom_48 rfl (lv_at hl 0 rfl) ?_
  refine lv_aload_n C.1 C.2.1 dX5_copyFrom_49 rfl (lv_at hl 1 rfl) ?_
  refine x_get C hw iwX5 4 rfl 10 rfl 6 (by decide) kw164 rfl dX5_copyFrom_50 ?_
  refine x_put (w' := [(qs, .inr (4, [.int qo_slides, .int qo_hearers, .int qo_nears, .int qo_lines, .int qo_pass, .int qo_spread, .int qo_lamp, .int qs_behind, .int qs_settingsTold, .ref qs_slideNames, .ref qs_pictures, .ref qs_heats, .ref qs_after, .ref qs_hearerNames, .ref qs_needs, .ref qs_likes, .ref qs_hates, .ref qs_near])), (qs_slideNames, eJ G 6 qs_slideNames_c), (qs_pictures, eI G 6 qs_pictures_c), (qs_heats, eI G 6 qs_heats_c), (qs_after, eI G 6 qs_after_c), (qs_hearerNames, eJ G 8 qs_hearerNames_c), (qs_needs, eI G 8 qs_needs_c), (qs_likes, eI G 8 qs_likes_c), (qs_hates, eI G 8 qs_hates_c), (qs_near, eI G 8 qs_near_c), (qo, .inr (4, [.int qo_slides, .int qo_hearers, .int qo_nears, .int qo_lines, .int qo_pass, .int qo_spread, .int qo_lamp, .int qo_behind, .int qo_settingsTold, .ref qo_slideNames, .ref qo_pictures, .ref qo_heats, .ref qo_after, .ref qo_hearerNames, .ref qo_needs, .ref qo_likes, .ref qo_hates, .ref qo_near])), (qo_slideNames, eJ G 6 qo_slideNames_c), (qo_pictures, eI G 6 qo_pictures_c), (qo_heats, eI G 6 qo_heats_c), (qo_after, eI G 6 qo_after_c), (qo_hearerNames, eJ G 8 qo_hearerNames_c), (qo_needs, eI G 8 qo_needs_c), (qo_likes, eI G 8 qo_likes_c), (qo_hates, eI G 8 qo_hates_c), (qo_near, eI G 8 qo_near_c)]) C hw iwX5 tyX5_ok nmX5 4 rfl 0 rfl 6 (by decide) kw164 rfl rfl rfl (Nat.le_of_ble_eq_true rfl) rfl dX5_copyFrom_53 (fun H locs hw => ?_)
  refine lv_aload_n C.1 C.2.1 dX5_copyFrom_56 rfl (lv_at hl 0 rfl) ?_
  refine lv_aload_n C.1 C.2.1 dX5_copyFrom_57 rfl (lv_at hl 1 rfl) ?_
  refine x_get C hw iwX5 4 rfl 10 rfl 7 (by decide) kw169 rfl dX5_copyFrom_58 ?_
  refine x_put (w' := [(qs, .inr (4, [.int qo_slides, .int qo_hearers, .int qo_nears, .int qo_lines, .int qo_pass, .int qo_spread, .int qo_lamp, .int qo_behind, .int qs_settingsTold, .ref qs_slideNames, .ref qs_pictures, .ref qs_heats, .ref qs_after, .ref qs_hearerNames, .ref qs_needs, .ref qs_likes, .ref qs_hates, .ref qs_near])), (qs_slideNames, eJ G 6 qs_slideNames_c), (qs_pictures, eI G 6 qs_pictures_c), (qs_heats, eI G 6 qs_heats_c), (qs_after, eI G 6 qs_after_c), (qs_hearerNames, eJ G 8 qs_hearerNames_c), (qs_needs, eI G 8 qs_needs_c), (qs_likes, eI G 8 qs_likes_c), (qs_hates, eI G 8 qs_hates_c), (qs_near, eI G 8 qs_near_c), (qo, .inr (4, [.int qo_slides, .int qo_hearers, .int qo_nears, .int qo_lines, .int qo_pass, .int qo_spread, .int qo_lamp, .int qo_behind, .int qo_settingsTold, .ref qo_slideNames, .ref qo_pictures, .ref qo_heats, .ref qo_after, .ref qo_hearerNames, .ref qo_needs, .ref qo_likes, .ref qo_hates, .ref qo_near])), (qo_slideNames, eJ G 6 qo_slideNames_c), (qo_pictures, eI G 6 qo_pictures_c), (qo_heats, eI G 6 qo_heats_c), (qo_after, eI G 6 qo_after_c), (qo_hearerNames, eJ G 8 qo_hearerNames_c), (qo_needs, eI G 8 qo_needs_c), (qo_likes, eI G 8 qo_likes_c), (qo_hates, eI G 8 qo_hates_c), (qo_near, eI G 8 qo_near_c)]) C hw iwX5 tyX5_ok nmX5 4 rfl 0 rfl 7 (by decide) kw169 rfl rfl rfl (Nat.le_of_ble_eq_true rfl) rfl dX5_copyFrom_61 (fun H locs hw => ?_)
  refine lv_aload_n C.1 C.2.1 dX5_copyFrom_64 rfl (lv_at hl 1 rfl) ?_
  refine x_get C hw iwX5 4 rfl 10 rfl 9 (by decide) kw171 rfl dX5_copyFrom_65 ?_
  refine lv_iconst (v := 0) C.1 C.2.1 dX5_copyFrom_68 (by decide) ?_
  refine lv_aload_n C.1 C.2.1 dX5_copyFrom_69 rfl (lv_at hl 0 rfl) ?_
  refine x_get C hw iwX5 4 rfl 0 rfl 9 (by decide) kw171 rfl dX5_copyFrom_70 ?_
  refine lv_iconst (v := 0) C.1 C.2.1 dX5_copyFrom_73 (by decide) ?_
  refine lv_bipush (v := 6) C.1 C.2.1 dX5_copyFrom_74 (by decide) ?_
  obtain ⟨g1, eg1⟩ : ∃ z, va_cpy qo_slideNames_c qs_slideNames_c 0 0 6 = z := ⟨_, rfl⟩
  refine x_copyl (g' := g1) (w' := [(qs, .inr (4, [.int qo_slides, .int qo_hearers, .int qo_nears, .int qo_lines, .int qo_pass, .int qo_spread, .int qo_lamp, .int qo_behind, .int qs_settingsTold, .ref qs_slideNames, .ref qs_pictures, .ref qs_heats, .ref qs_after, .ref qs_hearerNames, .ref qs_needs, .ref qs_likes, .ref qs_hates, .ref qs_near])), (qs_slideNames, eJ G 6 g1), (qs_pictures, eI G 6 qs_pictures_c), (qs_heats, eI G 6 qs_heats_c), (qs_after, eI G 6 qs_after_c), (qs_hearerNames, eJ G 8 qs_hearerNames_c), (qs_needs, eI G 8 qs_needs_c), (qs_likes, eI G 8 qs_likes_c), (qs_hates, eI G 8 qs_hates_c), (qs_near, eI G 8 qs_near_c), (qo, .inr (4, [.int qo_slides, .int qo_hearers, .int qo_nears, .int qo_lines, .int qo_pass, .int qo_spread, .int qo_lamp, .int qo_behind, .int qo_settingsTold, .ref qo_slideNames, .ref qo_pictures, .ref qo_heats, .ref qo_after, .ref qo_hearerNames, .ref qo_needs, .ref qo_likes, .ref qo_hates, .ref qo_near])), (qo_slideNames, eJ G 6 qo_slideNames_c), (qo_pictures, eI G 6 qo_pictures_c), (qo_heats, eI G 6 qo_heats_c), (qo_after, eI G 6 qo_after_c), (qo_hearerNames, eJ G 8 qo_hearerNames_c), (qo_needs, eI G 8 qo_needs_c), (qo_likes, eI G 8 qo_likes_c), (qo_hates, eI G 8 qo_hates_c), (qo_near, eI G 8 qo_near_c)]) C hw kw630 hl.1 11 1 rfl rfl (by decide) (by decide) (by decide) (Nat.le_of_ble_eq_true rfl) (Nat.le_of_ble_eq_true rfl) eg1 rfl (Nat.le_of_ble_eq_true rfl) (Nat.le_of_ble_eq_true rfl) dX5_copyFrom_76 (fun H locs hw => ?_)
  refine lv_aload_n C.1 C.2.1 dX5_copyFrom_79 rfl (lv_at hl 1 rfl) ?_
  refine x_get C hw iwX5 4 rfl 10 rfl 10 (by decide) kw173 rfl dX5_copyFrom_80 ?_
  refine lv_iconst (v := 0) C.1 C.2.1 dX5_copyFrom_83 (by decide) ?_
  refine lv_aload_n C.1 C.2.1 dX5_copyFrom_84 rfl (lv_at hl 0 rfl) ?_
  refine x_get C hw iwX5 4 rfl 0 rfl 10 (by decide) kw173 rfl dX5_copyFrom_85 ?_
  refine lv_iconst (v := 0) C.1 C.2.1 dX5_copyFrom_88 (by decide) ?_
  refine lv_bipush (v := 6) C.1 C.2.1 dX5_copyFrom_89 (by decide) ?_
  obtain ⟨g2, eg2⟩ : ∃ z, va_cpy qo_pictures_c qs_pictures_c 0 0 6 = z := ⟨_, rfl⟩
  refine x_copyi (g' := g2) (w' := [(qs, .inr (4, [.int qo_slides, .int qo_hearers, .int qo_nears, .int qo_lines, .int qo_pass, .int qo_spread, .int qo_lamp, .int qo_behind, .int qs_settingsTold, .ref qs_slideNames, .ref qs_pictures, .ref qs_heats, .ref qs_after, .ref qs_hearerNames, .ref qs_needs, .ref qs_likes, .ref qs_hates, .ref qs_near])), (qs_slideNames, eJ G 6 g1), (qs_pictures, eI G 6 g2), (qs_heats, eI G 6 qs_heats_c), (qs_after, eI G 6 qs_after_c), (qs_hearerNames, eJ G 8 qs_hearerNames_c), (qs_needs, eI G 8 qs_needs_c), (qs_likes, eI G 8 qs_likes_c), (qs_hates, eI G 8 qs_hates_c), (qs_near, eI G 8 qs_near_c), (qo, .inr (4, [.int qo_slides, .int qo_hearers, .int qo_nears, .int qo_lines, .int qo_pass, .int qo_spread, .int qo_lamp, .int qo_behind, .int qo_settingsTold, .ref qo_slideNames, .ref qo_pictures, .ref qo_heats, .ref qo_after, .ref qo_hearerNames, .ref qo_needs, .ref qo_likes, .ref qo_hates, .ref qo_near])), (qo_slideNames, eJ G 6 qo_slideNames_c), (qo_pictures, eI G 6 qo_pictures_c), (qo_heats, eI G 6 qo_heats_c), (qo_after, eI G 6 qo_after_c), (qo_hearerNames, eJ G 8 qo_hearerNames_c), (qo_needs, eI G 8 qo_needs_c), (qo_likes, eI G 8 qo_likes_c), (qo_hates, eI G 8 qo_hates_c), (qo_near, eI G 8 qo_near_c)]) C hw kw630 hl.1 12 2 rfl rfl (by decide) (by decide) (by decide) (Nat.le_of_ble_eq_true rfl) (Nat.le_of_ble_eq_true rfl) eg2 rfl (Nat.le_of_ble_eq_true rfl) (Nat.le_of_ble_eq_true rfl) dX5_copyFrom_91 (fun H locs hw => ?_)
  refine lv_aload_n C.1 C.2.1 dX5_copyFrom_94 rfl (lv_at hl 1 rfl) ?_
  refine x_get C hw iwX5 4 rfl 10 rfl 11 (by decide) kw175 rfl dX5_copyFrom_95 ?_
  refine lv_iconst (v := 0) C.1 C.2.1 dX5_copyFrom_98 (by decide) ?_
  refine lv_aload_n C.1 C.2.1 dX5_copyFrom_99 rfl (lv_at hl 0 rfl) ?_
  refine x_get C hw iwX5 4 rfl 0 rfl 11 (by decide) kw175 rfl dX5_copyFrom_100 ?_
  refine lv_iconst (v := 0) C.1 C.2.1 dX5_copyFrom_103 (by decide) ?_
  refine lv_bipush (v := 6) C.1 C.2.1 dX5_copyFrom_104 (by decide) ?_
  obtain ⟨g3, eg3⟩ : ∃ z, va_cpy qo_heats_c qs_heats_c 0 0 6 = z := ⟨_, rfl⟩
  refine x_copyi (g' := g3) (w' := [(qs, .inr (4, [.int qo_slides, .int qo_hearers, .int qo_nears, .int qo_lines, .int qo_pass, .int qo_spread, .int qo_lamp, .int qo_behind, .int qs_settingsTold, .ref qs_slideNames, .ref qs_pictures, .ref qs_heats, .ref qs_after, .ref qs_hearerNames, .ref qs_needs, .ref qs_likes, .ref qs_hates, .ref qs_near])), (qs_slideNames, eJ G 6 g1), (qs_pictures, eI G 6 g2), (qs_heats, eI G 6 g3), (qs_after, eI G 6 qs_after_c), (qs_hearerNames, eJ G 8 qs_hearerNames_c), (qs_needs, eI G 8 qs_needs_c), (qs_likes, eI G 8 qs_likes_c), (qs_hates, eI G 8 qs_hates_c), (qs_near, eI G 8 qs_near_c), (qo, .inr (4, [.int qo_slides, .int qo_hearers, .int qo_nears, .int qo_lines, .int qo_pass, .int qo_spread, .int qo_lamp, .int qo_behind, .int qo_settingsTold, .ref qo_slideNames, .ref qo_pictures, .ref qo_heats, .ref qo_after, .ref qo_hearerNames, .ref qo_needs, .ref qo_likes, .ref qo_hates, .ref qo_near])), (qo_slideNames, eJ G 6 qo_slideNames_c), (qo_pictures, eI G 6 qo_pictures_c), (qo_heats, eI G 6 qo_heats_c), (qo_after, eI G 6 qo_after_c), (qo_hearerNames, eJ G 8 qo_hearerNames_c), (qo_needs, eI G 8 qo_needs_c), (qo_likes, eI G 8 qo_likes_c), (qo_hates, eI G 8 qo_hates_c), (qo_near, eI G 8 qo_near_c)]) C hw kw630 hl.1 13 3 rfl rfl (by decide) (by decide) (by decide) (Nat.le_of_ble_eq_true rfl) (Nat.le_of_ble_eq_true rfl) eg3 rfl (Nat.le_of_ble_eq_true rfl) (Nat.le_of_ble_eq_true rfl) dX5_copyFrom_106 (fun H locs hw => ?_)
  refine lv_aload_n C.1 C.2.1 dX5_copyFrom_109 rfl (lv_at hl 1 rfl) ?_
  refine x_get C hw iwX5 4 rfl 10 rfl 12 (by decide) kw180 rfl dX5_copyFrom_110 ?_
  refine lv_iconst (v := 0) C.1 C.2.1 dX5_copyFrom_113 (by decide) ?_
  refine lv_aload_n C.1 C.2.1 dX5_copyFrom_114 rfl (lv_at hl 0 rfl) ?_
  refine x_get C hw iwX5 4 rfl 0 rfl 12 (by decide) kw180 rfl dX5_copyFrom_115 ?_
  refine lv_iconst (v := 0) C.1 C.2.1 dX5_copyFrom_118 (by decide) ?_
  refine lv_bipush (v := 6) C.1 C.2.1 dX5_copyFrom_119 (by decide) ?_
  obtain ⟨g4, eg4⟩ : ∃ z, va_cpy qo_after_c qs_after_c 0 0 6 = z := ⟨_, rfl⟩
  have fg4 : inA 6 (-1) 5 g4 := eg4 ▸ i_cpyF hf_qo_after_c
  refine x_copyi (g' := g4) (w' := [(qs, .inr (4, [.int qo_slides, .int qo_hearers, .int qo_nears, .int qo_lines, .int qo_pass, .int qo_spread, .int qo_lamp, .int qo_behind, .int qs_settingsTold, .ref qs_slideNames, .ref qs_pictures, .ref qs_heats, .ref qs_after, .ref qs_hearerNames, .ref qs_needs, .ref qs_likes, .ref qs_hates, .ref qs_near])), (qs_slideNames, eJ G 6 g1), (qs_pictures, eI G 6 g2), (qs_heats, eI G 6 g3), (qs_after, eI G 6 g4), (qs_hearerNames, eJ G 8 qs_hearerNames_c), (qs_needs, eI G 8 qs_needs_c), (qs_likes, eI G 8 qs_likes_c), (qs_hates, eI G 8 qs_hates_c), (qs_near, eI G 8 qs_near_c), (qo, .inr (4, [.int qo_slides, .int qo_hearers, .int qo_nears, .int qo_lines, .int qo_pass, .int qo_spread, .int qo_lamp, .int qo_behind, .int qo_settingsTold, .ref qo_slideNames, .ref qo_pictures, .ref qo_heats, .ref qo_after, .ref qo_hearerNames, .ref qo_needs, .ref qo_likes, .ref qo_hates, .ref qo_near])), (qo_slideNames, eJ G 6 qo_slideNames_c), (qo_pictures, eI G 6 qo_pictures_c), (qo_heats, eI G 6 qo_heats_c), (qo_after, eI G 6 qo_after_c), (qo_hearerNames, eJ G 8 qo_hearerNames_c), (qo_needs, eI G 8 qo_needs_c), (qo_likes, eI G 8 qo_likes_c), (qo_hates, eI G 8 qo_hates_c), (qo_near, eI G 8 qo_near_c)]) C hw kw630 hl.1 14 4 rfl rfl (by decide) (by decide) (by decide) (Nat.le_of_ble_eq_true rfl) (Nat.le_of_ble_eq_true rfl) eg4 rfl (Nat.le_of_ble_eq_true rfl) (Nat.le_of_ble_eq_true rfl) dX5_copyFrom_121 (fun H locs hw => ?_)
  refine lv_aload_n C.1 C.2.1 dX5_copyFrom_124 rfl (lv_at hl 1 rfl) ?_
  refine x_get C hw iwX5 4 rfl 10 rfl 13 (by decide) kw184 rfl dX5_copyFrom_125 ?_
  refine lv_iconst (v := 0) C.1 C.2.1 dX5_copyFrom_128 (by decide) ?_
  refine lv_aload_n C.1 C.2.1 dX5_copyFrom_129 rfl (lv_at hl 0 rfl) ?_
  refine x_get C hw iwX5 4 rfl 0 rfl 13 (by decide) kw184 rfl dX5_copyFrom_130 ?_
  refine lv_iconst (v := 0) C.1 C.2.1 dX5_copyFrom_133 (by decide) ?_
  refine lv_bipush (v := 8) C.1 C.2.1 dX5_copyFrom_134 (by decide) ?_
  obtain ⟨g5, eg5⟩ : ∃ z, va_cpy qo_hearerNames_c qs_hearerNames_c 0 0 8 = z := ⟨_, rfl⟩
  refine x_copyl (g' := g5) (w' := [(qs, .inr (4, [.int qo_slides, .int qo_hearers, .int qo_nears, .int qo_lines, .int qo_pass, .int qo_spread, .int qo_lamp, .int qo_behind, .int qs_settingsTold, .ref qs_slideNames, .ref qs_pictures, .ref qs_heats, .ref qs_after, .ref qs_hearerNames, .ref qs_needs, .ref qs_likes, .ref qs_hates, .ref qs_near])), (qs_slideNames, eJ G 6 g1), (qs_pictures, eI G 6 g2), (qs_heats, eI G 6 g3), (qs_after, eI G 6 g4), (qs_hearerNames, eJ G 8 g5), (qs_needs, eI G 8 qs_needs_c), (qs_likes, eI G 8 qs_likes_c), (qs_hates, eI G 8 qs_hates_c), (qs_near, eI G 8 qs_near_c), (qo, .inr (4, [.int qo_slides, .int qo_hearers, .int qo_nears, .int qo_lines, .int qo_pass, .int qo_spread, .int qo_lamp, .int qo_behind, .int qo_settingsTold, .ref qo_slideNames, .ref qo_pictures, .ref qo_heats, .ref qo_after, .ref qo_hearerNames, .ref qo_needs, .ref qo_likes, .ref qo_hates, .ref qo_near])), (qo_slideNames, eJ G 6 qo_slideNames_c), (qo_pictures, eI G 6 qo_pictures_c), (qo_heats, eI G 6 qo_heats_c), (qo_after, eI G 6 qo_after_c), (qo_hearerNames, eJ G 8 qo_hearerNames_c), (qo_needs, eI G 8 qo_needs_c), (qo_likes, eI G 8 qo_likes_c), (qo_hates, eI G 8 qo_hates_c), (qo_near, eI G 8 qo_near_c)]) C hw kw630 hl.1 15 5 rfl rfl (by decide) (by decide) (by decide) (Nat.le_of_ble_eq_true rfl) (Nat.le_of_ble_eq_true rfl) eg5 rfl (Nat.le_of_ble_eq_true rfl) (Nat.le_of_ble_eq_true rfl) dX5_copyFrom_136 (fun H locs hw => ?_)
  refine lv_aload_n C.1 C.2.1 dX5_copyFrom_139 rfl (lv_at hl 1 rfl) ?_
  refine x_get C hw iwX5 4 rfl 10 rfl 14 (by decide) kw185 rfl dX5_copyFrom_140 ?_
  refine lv_iconst (v := 0) C.1 C.2.1 dX5_copyFrom_143 (by decide) ?_
  refine lv_aload_n C.1 C.2.1 dX5_copyFrom_144 rfl (lv_at hl 0 rfl) ?_
  refine x_get C hw iwX5 4 rfl 0 rfl 14 (by decide) kw185 rfl dX5_copyFrom_145 ?_
  refine lv_iconst (v := 0) C.1 C.2.1 dX5_copyFrom_148 (by decide) ?_
  refine lv_bipush (v := 8) C.1 C.2.1 dX5_copyFrom_149 (by decide) ?_
  obtain ⟨g6, eg6⟩ : ∃ z, va_cpy qo_needs_c qs_needs_c 0 0 8 = z := ⟨_, rfl⟩
  refine x_copyi (g' := g6) (w' := [(qs, .inr (4, [.int qo_slides, .int qo_hearers, .int qo_nears, .int qo_lines, .int qo_pass, .int qo_spread, .int qo_lamp, .int qo_behind, .int qs_settingsTold, .ref qs_slideNames, .ref qs_pictures, .ref qs_heats, .ref qs_after, .ref qs_hearerNames, .ref qs_needs, .ref qs_likes, .ref qs_hates, .ref qs_near])), (qs_slideNames, eJ G 6 g1), (qs_pictures, eI G 6 g2), (qs_heats, eI G 6 g3), (qs_after, eI G 6 g4), (qs_hearerNames, eJ G 8 g5), (qs_needs, eI G 8 g6), (qs_likes, eI G 8 qs_likes_c), (qs_hates, eI G 8 qs_hates_c), (qs_near, eI G 8 qs_near_c), (qo, .inr (4, [.int qo_slides, .int qo_hearers, .int qo_nears, .int qo_lines, .int qo_pass, .int qo_spread, .int qo_lamp, .int qo_behind, .int qo_settingsTold, .ref qo_slideNames, .ref qo_pictures, .ref qo_heats, .ref qo_after, .ref qo_hearerNames, .ref qo_needs, .ref qo_likes, .ref qo_hates, .ref qo_near])), (qo_slideNames, eJ G 6 qo_slideNames_c), (qo_pictures, eI G 6 qo_pictures_c), (qo_heats, eI G 6 qo_heats_c), (qo_after, eI G 6 qo_after_c), (qo_hearerNames, eJ G 8 qo_hearerNames_c), (qo_needs, eI G 8 qo_needs_c), (qo_likes, eI G 8 qo_likes_c), (qo_hates, eI G 8 qo_hates_c), (qo_near, eI G 8 qo_near_c)]) C hw kw630 hl.1 16 6 rfl rfl (by decide) (by decide) (by decide) (Nat.le_of_ble_eq_true rfl) (Nat.le_of_ble_eq_true rfl) eg6 rfl (Nat.le_of_ble_eq_true rfl) (Nat.le_of_ble_eq_true rfl) dX5_copyFrom_151 (fun H locs hw => ?_)
  refine lv_aload_n C.1 C.2.1 dX5_copyFrom_154 rfl (lv_at hl 1 rfl) ?_
  refine x_get C hw iwX5 4 rfl 10 rfl 15 (by decide) kw187 rfl dX5_copyFrom_155 ?_
  refine lv_iconst (v := 0) C.1 C.2.1 dX5_copyFrom_158 (by decide) ?_
  refine lv_aload_n C.1 C.2.1 dX5_copyFrom_159 rfl (lv_at hl 0 rfl) ?_
  refine x_get C hw iwX5 4 rfl 0 rfl 15 (by decide) kw187 rfl dX5_copyFrom_160 ?_
  refine lv_iconst (v := 0) C.1 C.2.1 dX5_copyFrom_163 (by decide) ?_
  refine lv_bipush (v := 8) C.1 C.2.1 dX5_copyFrom_164 (by decide) ?_
  obtain ⟨g7, eg7⟩ : ∃ z, va_cpy qo_likes_c qs_likes_c 0 0 8 = z := ⟨_, rfl⟩
  refine x_copyi (g' := g7) (w' := [(qs, .inr (4, [.int qo_slides, .int qo_hearers, .int qo_nears, .int qo_lines, .int qo_pass, .int qo_spread, .int qo_lamp, .int qo_behind, .int qs_settingsTold, .ref qs_slideNames, .ref qs_pictures, .ref qs_heats, .ref qs_after, .ref qs_hearerNames, .ref qs_needs, .ref qs_likes, .ref qs_hates, .ref qs_near])), (qs_slideNames, eJ G 6 g1), (qs_pictures, eI G 6 g2), (qs_heats, eI G 6 g3), (qs_after, eI G 6 g4), (qs_hearerNames, eJ G 8 g5), (qs_needs, eI G 8 g6), (qs_likes, eI G 8 g7), (qs_hates, eI G 8 qs_hates_c), (qs_near, eI G 8 qs_near_c), (qo, .inr (4, [.int qo_slides, .int qo_hearers, .int qo_nears, .int qo_lines, .int qo_pass, .int qo_spread, .int qo_lamp, .int qo_behind, .int qo_settingsTold, .ref qo_slideNames, .ref qo_pictures, .ref qo_heats, .ref qo_after, .ref qo_hearerNames, .ref qo_needs, .ref qo_likes, .ref qo_hates, .ref qo_near])), (qo_slideNames, eJ G 6 qo_slideNames_c), (qo_pictures, eI G 6 qo_pictures_c), (qo_heats, eI G 6 qo_heats_c), (qo_after, eI G 6 qo_after_c), (qo_hearerNames, eJ G 8 qo_hearerNames_c), (qo_needs, eI G 8 qo_needs_c), (qo_likes, eI G 8 qo_likes_c), (qo_hates, eI G 8 qo_hates_c), (qo_near, eI G 8 qo_near_c)]) C hw kw630 hl.1 17 7 rfl rfl (by decide) (by decide) (by decide) (Nat.le_of_ble_eq_true rfl) (Nat.le_of_ble_eq_true rfl) eg7 rfl (Nat.le_of_ble_eq_true rfl) (Nat.le_of_ble_eq_true rfl) dX5_copyFrom_166 (fun H locs hw => ?_)
  refine lv_aload_n C.1 C.2.1 dX5_copyFrom_169 rfl (lv_at hl 1 rfl) ?_
  refine x_get C hw iwX5 4 rfl 10 rfl 16 (by decide) kw189 rfl dX5_copyFrom_170 ?_
  refine lv_iconst (v := 0) C.1 C.2.1 dX5_copyFrom_173 (by decide) ?_
  refine lv_aload_n C.1 C.2.1 dX5_copyFrom_174 rfl (lv_at hl 0 rfl) ?_
  refine x_get C hw iwX5 4 rfl 0 rfl 16 (by decide) kw189 rfl dX5_copyFrom_175 ?_
  refine lv_iconst (v := 0) C.1 C.2.1 dX5_copyFrom_178 (by decide) ?_
  refine lv_bipush (v := 8) C.1 C.2.1 dX5_copyFrom_179 (by decide) ?_
  obtain ⟨g8, eg8⟩ : ∃ z, va_cpy qo_hates_c qs_hates_c 0 0 8 = z := ⟨_, rfl⟩
  refine x_copyi (g' := g8) (w' := [(qs, .inr (4, [.int qo_slides, .int qo_hearers, .int qo_nears, .int qo_lines, .int qo_pass, .int qo_spread, .int qo_lamp, .int qo_behind, .int qs_settingsTold, .ref qs_slideNames, .ref qs_pictures, .ref qs_heats, .ref qs_after, .ref qs_hearerNames, .ref qs_needs, .ref qs_likes, .ref qs_hates, .ref qs_near])), (qs_slideNames, eJ G 6 g1), (qs_pictures, eI G 6 g2), (qs_heats, eI G 6 g3), (qs_after, eI G 6 g4), (qs_hearerNames, eJ G 8 g5), (qs_needs, eI G 8 g6), (qs_likes, eI G 8 g7), (qs_hates, eI G 8 g8), (qs_near, eI G 8 qs_near_c), (qo, .inr (4, [.int qo_slides, .int qo_hearers, .int qo_nears, .int qo_lines, .int qo_pass, .int qo_spread, .int qo_lamp, .int qo_behind, .int qo_settingsTold, .ref qo_slideNames, .ref qo_pictures, .ref qo_heats, .ref qo_after, .ref qo_hearerNames, .ref qo_needs, .ref qo_likes, .ref qo_hates, .ref qo_near])), (qo_slideNames, eJ G 6 qo_slideNames_c), (qo_pictures, eI G 6 qo_pictures_c), (qo_heats, eI G 6 qo_heats_c), (qo_after, eI G 6 qo_after_c), (qo_hearerNames, eJ G 8 qo_hearerNames_c), (qo_needs, eI G 8 qo_needs_c), (qo_likes, eI G 8 qo_likes_c), (qo_hates, eI G 8 qo_hates_c), (qo_near, eI G 8 qo_near_c)]) C hw kw630 hl.1 18 8 rfl rfl (by decide) (by decide) (by decide) (Nat.le_of_ble_eq_true rfl) (Nat.le_of_ble_eq_true rfl) eg8 rfl (Nat.le_of_ble_eq_true rfl) (Nat.le_of_ble_eq_true rfl) dX5_copyFrom_181 (fun H locs hw => ?_)
  refine lv_aload_n C.1 C.2.1 dX5_copyFrom_184 rfl (lv_at hl 1 rfl) ?_
  refine x_get C hw iwX5 4 rfl 10 rfl 17 (by decide) kw191 rfl dX5_copyFrom_185 ?_
  refine lv_iconst (v := 0) C.1 C.2.1 dX5_copyFrom_188 (by decide) ?_
  refine lv_aload_n C.1 C.2.1 dX5_copyFrom_189 rfl (lv_at hl 0 rfl) ?_
  refine x_get C hw iwX5 4 rfl 0 rfl 17 (by decide) kw191 rfl dX5_copyFrom_190 ?_
  refine lv_iconst (v := 0) C.1 C.2.1 dX5_copyFrom_193 (by decide) ?_
  refine lv_bipush (v := 8) C.1 C.2.1 dX5_copyFrom_194 (by decide) ?_
  obtain ⟨g9, eg9⟩ : ∃ z, va_cpy qo_near_c qs_near_c 0 0 8 = z := ⟨_, rfl⟩
  refine x_copyi (g' := g9) (w' := [(qs, .inr (4, [.int qo_slides, .int qo_hearers, .int qo_nears, .int qo_lines, .int qo_pass, .int qo_spread, .int qo_lamp, .int qo_behind, .int qs_settingsTold, .ref qs_slideNames, .ref qs_pictures, .ref qs_heats, .ref qs_after, .ref qs_hearerNames, .ref qs_needs, .ref qs_likes, .ref qs_hates, .ref qs_near])), (qs_slideNames, eJ G 6 g1), (qs_pictures, eI G 6 g2), (qs_heats, eI G 6 g3), (qs_after, eI G 6 g4), (qs_hearerNames, eJ G 8 g5), (qs_needs, eI G 8 g6), (qs_likes, eI G 8 g7), (qs_hates, eI G 8 g8), (qs_near, eI G 8 g9), (qo, .inr (4, [.int qo_slides, .int qo_hearers, .int qo_nears, .int qo_lines, .int qo_pass, .int qo_spread, .int qo_lamp, .int qo_behind, .int qo_settingsTold, .ref qo_slideNames, .ref qo_pictures, .ref qo_heats, .ref qo_after, .ref qo_hearerNames, .ref qo_needs, .ref qo_likes, .ref qo_hates, .ref qo_near])), (qo_slideNames, eJ G 6 qo_slideNames_c), (qo_pictures, eI G 6 qo_pictures_c), (qo_heats, eI G 6 qo_heats_c), (qo_after, eI G 6 qo_after_c), (qo_hearerNames, eJ G 8 qo_hearerNames_c), (qo_needs, eI G 8 qo_needs_c), (qo_likes, eI G 8 qo_likes_c), (qo_hates, eI G 8 qo_hates_c), (qo_near, eI G 8 qo_near_c)]) C hw kw630 hl.1 19 9 rfl rfl (by decide) (by decide) (by decide) (Nat.le_of_ble_eq_true rfl) (Nat.le_of_ble_eq_true rfl) eg9 rfl (Nat.le_of_ble_eq_true rfl) (Nat.le_of_ble_eq_true rfl) dX5_copyFrom_196 (fun H locs hw => ?_)
  exact x_retvQ hQ B hw ⟨g1, g2, g3, g4, g5, g6, g7, g8, g9, rfl, fg4⟩ (Nat.le_of_ble_eq_true rfl) (Nat.le_of_ble_eq_true rfl) dX5_copyFrom_199
set_option maxHeartbeats 4000000 in
set_option maxRecDepth 100000 in
theorem s_X5_findSlide {l : Launch} {G : Gc} (qs : Nat) (a1 : Int64) (qs_slides : Int32) (qs_hearers : Int32) (qs_nears : Int32) (qs_lines : Int32) (qs_pass : Int32) (qs_spread : Int32) (qs_lamp : Int32) (qs_behind : Int32) (qs_settingsTold : Int32) (qs_slideNames : Nat) (qs_pictures : Nat) (qs_heats : Nat) (qs_after : Nat) (qs_hearerNames : Nat) (qs_needs : Nat) (qs_likes : Nat) (qs_hates : Nat) (qs_near : Nat) (qs_slideNames_c : Nat → Int64) (hi_qs_slides : 0 ≤ qs_slides.toInt ∧ qs_slides.toInt ≤ 6) : Ci l yX5_findSlide cX5_findSlide 4 (some .int) 0 0 0 G [.ref qs, .long a1] [(qs, .inr (4, [.int qs_slides, .int qs_hearers, .int qs_nears, .int qs_lines, .int qs_pass, .int qs_spread, .int qs_lamp, .int qs_behind, .int qs_settingsTold, .ref qs_slideNames, .ref qs_pictures, .ref qs_heats, .ref qs_after, .ref qs_hearerNames, .ref qs_needs, .ref qs_likes, .ref qs_hates, .ref qs_near])), (qs_slideNames, eJ G 6 qs_slideNames_c)] (fun (r9 : Int32) (u9 : va_W) => ∃ (r_x : Int32), r9 = r_x ∧ u9 = [(qs, .inr (4, [.int qs_slides, .int qs_hearers, .int qs_nears, .int qs_lines, .int qs_pass, .int qs_spread, .int qs_lamp, .int qs_behind, .int qs_settingsTold, .ref qs_slideNames, .ref qs_pictures, .ref qs_heats, .ref qs_after, .ref qs_hearerNames, .ref qs_needs, .ref qs_likes, .ref qs_hates, .ref qs_near])), (qs_slideNames, eJ G 6 qs_slideNames_c)] ∧ ((-1) ≤ r_x.toInt ∧ r_x.toInt ≤ 5)) := by
  refine Ci.ofQ (by decide) (Nat.le_of_ble_eq_true rfl) ?_
  intro p e s m below meth c ls A args Q hQ B hw hl
  have C : CallFix p m c cX5_findSlide 4 s args gw "LanternState$Scene" := B.1
  have hl : lv_has ls 4 [(0, .ref qs), (1, .long a1)] := hl
  refine lv_iconst (v := 0) C.1 C.2.1 dX5_findSlide_0 (by decide) ?_
  refine lv_istore_n (lv' := [(3, .int 0), (0, .ref qs), (1, .long a1)]) C.1 C.2.1 dX5_findSlide_1 rfl hl (by decide) rfl (fun ls hl => ?_)
  have loopJ42 : ∀ (n9 : Nat) (j41 : Int32), (2147483647 - j41.toInt).toNat < n9 → (0 ≤ j41.toInt ∧ j41.toInt ≤ 6) → ∀ (H : Heap) (locs : List Loc) (ls : Array Slot), Wd G s A [(qs, .inr (4, [.int qs_slides, .int qs_hearers, .int qs_nears, .int qs_lines, .int qs_pass, .int qs_spread, .int qs_lamp, .int qs_behind, .int qs_settingsTold, .ref qs_slideNames, .ref qs_pictures, .ref qs_heats, .ref qs_after, .ref qs_hearerNames, .ref qs_needs, .ref qs_likes, .ref qs_hates, .ref qs_near])), (qs_slideNames, eJ G 6 qs_slideNames_c)] H locs → lv_has ls 4 [(3, .int j41), (0, .ref qs), (1, .long a1)] → W p l e (rmD 0 0 0) s m args below meth c H locs 0 0 Q (F0 m 2 ls []) := by
    intro n9
    induction n9 with
    | zero => intro j41 h9; exact absurd h9 (Nat.not_lt_zero _)
    | succ n9 ihJ42 =>
      intro j41 h9J42 hJ42_0 H locs ls hw hl
      have hbj41 := i_bd j41
      refine lv_iload_n C.1 C.2.1 dX5_findSlide_2 rfl (lv_at hl 0 rfl) ?_
      refine lv_aload_n C.1 C.2.1 dX5_findSlide_3 rfl (lv_at hl 1 rfl) ?_
      refine x_get C hw iwX5 4 rfl 0 rfl 0 (by decide) kw147 rfl dX5_findSlide_4 ?_
      refine lv_icmp_ge (tgt := 29) C.1 C.2.1 dX5_findSlide_7 (by decide) (fun c50 => ?_) (fun c50 => ?_)
      · skip
        have c50 : qs_slides.toInt ≤ j41.toInt := i_leT (X := qs_slides.toInt) (Y := j41.toInt) rfl rfl c50
        refine lv_iconst (v := (-1)) C.1 C.2.1 dX5_findSlide_29 (by decide) ?_
        exact x_retiQ hQ B hw ⟨(-1), rfl, rfl, (by decide)⟩ (Nat.le_of_ble_eq_true rfl) (Nat.le_of_ble_eq_true rfl) dX5_findSlide_30
      · skip
        have c50 : j41.toInt < qs_slides.toInt := i_leF (X := qs_slides.toInt) (Y := j41.toInt) rfl rfl c50
        refine lv_aload_n C.1 C.2.1 dX5_findSlide_10 rfl (lv_at hl 1 rfl) ?_
        refine x_get C hw iwX5 4 rfl 0 rfl 9 (by decide) kw171 rfl dX5_findSlide_11 ?_
        refine lv_iload_n C.1 C.2.1 dX5_findSlide_14 rfl (lv_at hl 0 rfl) ?_
        refine x_lald (v := (qs_slideNames_c j41.toNatClampNeg)) C hw 1 rfl (i_in (by omega) (by omega)) rfl dX5_findSlide_15 (x_genl (fun v51 => ?_))
        refine lv_lload_n C.1 C.2.1 dX5_findSlide_16 rfl (lv_at hl 2 rfl) ?_
        refine W.lcmp C.1 C.2.1 dX5_findSlide_17 (x_gen (fun v52 => ?_))
        refine lv_if_ne (tgt := 23) C.1 C.2.1 dX5_findSlide_18 (by decide) (fun c53 => ?_) (fun c53 => ?_)
        · skip
          have c53 : v52.toInt ≠ 0 := i_eqF (X := v52.toInt) (Y := 0) rfl rfl c53
          have bc53_v52 := i_bd v52
          obtain ⟨v54, ev54⟩ : ∃ z : Int32, j41 + 1 = z := ⟨_, rfl⟩
          have hv54 : v54.toInt = j41.toInt + 1 := by rw [← ev54]; exact i_add rfl rfl (by omega) (by omega)
          refine lv_iinc (v := v54) (lv' := [(3, .int v54), (0, .ref qs), (1, .long a1)]) C.1 C.2.1 dX5_findSlide_23 hl (k := 0) rfl ev54 (by decide) rfl (fun ls hl => ?_)
          refine lv_goto (tgt := 2) C.1 C.2.1 dX5_findSlide_26 (by decide) ?_
          exact ihJ42 v54 (by omega) (by omega) _ _ _ hw (lv_sub hl [0, 1, 2] rfl)
        · skip
          have c53 : v52.toInt = 0 := i_eqT (X := v52.toInt) (Y := 0) rfl rfl c53
          have bc53_v52 := i_bd v52
          refine lv_iload_n C.1 C.2.1 dX5_findSlide_21 rfl (lv_at hl 0 rfl) ?_
          exact x_retiQ hQ B hw ⟨j41, rfl, rfl, (by omega)⟩ (Nat.le_of_ble_eq_true rfl) (Nat.le_of_ble_eq_true rfl) dX5_findSlide_22
  exact loopJ42 _ 0 (Nat.lt_succ_self _) (by decide) _ _ _ hw (lv_sub hl [0, 1, 2] rfl)
set_option maxHeartbeats 4000000 in
set_option maxRecDepth 100000 in
theorem s_X5_findHearer {l : Launch} {G : Gc} (qs : Nat) (a1 : Int64) (qs_slides : Int32) (qs_hearers : Int32) (qs_nears : Int32) (qs_lines : Int32) (qs_pass : Int32) (qs_spread : Int32) (qs_lamp : Int32) (qs_behind : Int32) (qs_settingsTold : Int32) (qs_slideNames : Nat) (qs_pictures : Nat) (qs_heats : Nat) (qs_after : Nat) (qs_hearerNames : Nat) (qs_needs : Nat) (qs_likes : Nat) (qs_hates : Nat) (qs_near : Nat) (qs_hearerNames_c : Nat → Int64) (hi_qs_hearers : 0 ≤ qs_hearers.toInt ∧ qs_hearers.toInt ≤ 8) : Ci l yX5_findHearer cX5_findHearer 4 (some .int) 0 0 0 G [.ref qs, .long a1] [(qs, .inr (4, [.int qs_slides, .int qs_hearers, .int qs_nears, .int qs_lines, .int qs_pass, .int qs_spread, .int qs_lamp, .int qs_behind, .int qs_settingsTold, .ref qs_slideNames, .ref qs_pictures, .ref qs_heats, .ref qs_after, .ref qs_hearerNames, .ref qs_needs, .ref qs_likes, .ref qs_hates, .ref qs_near])), (qs_hearerNames, eJ G 8 qs_hearerNames_c)] (fun (r9 : Int32) (u9 : va_W) => ∃ (r_x : Int32), r9 = r_x ∧ u9 = [(qs, .inr (4, [.int qs_slides, .int qs_hearers, .int qs_nears, .int qs_lines, .int qs_pass, .int qs_spread, .int qs_lamp, .int qs_behind, .int qs_settingsTold, .ref qs_slideNames, .ref qs_pictures, .ref qs_heats, .ref qs_after, .ref qs_hearerNames, .ref qs_needs, .ref qs_likes, .ref qs_hates, .ref qs_near])), (qs_hearerNames, eJ G 8 qs_hearerNames_c)] ∧ ((-1) ≤ r_x.toInt ∧ r_x.toInt ≤ 7)) := by
  refine Ci.ofQ (by decide) (Nat.le_of_ble_eq_true rfl) ?_
  intro p e s m below meth c ls A args Q hQ B hw hl
  have C : CallFix p m c cX5_findHearer 4 s args gw "LanternState$Scene" := B.1
  have hl : lv_has ls 4 [(0, .ref qs), (1, .long a1)] := hl
  refine lv_iconst (v := 0) C.1 C.2.1 dX5_findHearer_0 (by decide) ?_
  refine lv_istore_n (lv' := [(3, .int 0), (0, .ref qs), (1, .long a1)]) C.1 C.2.1 dX5_findHearer_1 rfl hl (by decide) rfl (fun ls hl => ?_)
  have loopJ56 : ∀ (n9 : Nat) (j55 : Int32), (2147483647 - j55.toInt).toNat < n9 → (0 ≤ j55.toInt ∧ j55.toInt ≤ 8) → ∀ (H : Heap) (locs : List Loc) (ls : Array Slot), Wd G s A [(qs, .inr (4, [.int qs_slides, .int qs_hearers, .int qs_nears, .int qs_lines, .int qs_pass, .int qs_spread, .int qs_lamp, .int qs_behind, .int qs_settingsTold, .ref qs_slideNames, .ref qs_pictures, .ref qs_heats, .ref qs_after, .ref qs_hearerNames, .ref qs_needs, .ref qs_likes, .ref qs_hates, .ref qs_near])), (qs_hearerNames, eJ G 8 qs_hearerNames_c)] H locs → lv_has ls 4 [(3, .int j55), (0, .ref qs), (1, .long a1)] → W p l e (rmD 0 0 0) s m args below meth c H locs 0 0 Q (F0 m 2 ls []) := by
    intro n9
    induction n9 with
    | zero => intro j55 h9; exact absurd h9 (Nat.not_lt_zero _)
    | succ n9 ihJ56 =>
      intro j55 h9J56 hJ56_0 H locs ls hw hl
      have hbj55 := i_bd j55
      refine lv_iload_n C.1 C.2.1 dX5_findHearer_2 rfl (lv_at hl 0 rfl) ?_
      refine lv_aload_n C.1 C.2.1 dX5_findHearer_3 rfl (lv_at hl 1 rfl) ?_
      refine x_get C hw iwX5 4 rfl 0 rfl 1 (by decide) kw152 rfl dX5_findHearer_4 ?_
      refine lv_icmp_ge (tgt := 29) C.1 C.2.1 dX5_findHearer_7 (by decide) (fun c64 => ?_) (fun c64 => ?_)
      · skip
        have c64 : qs_hearers.toInt ≤ j55.toInt := i_leT (X := qs_hearers.toInt) (Y := j55.toInt) rfl rfl c64
        refine lv_iconst (v := (-1)) C.1 C.2.1 dX5_findHearer_29 (by decide) ?_
        exact x_retiQ hQ B hw ⟨(-1), rfl, rfl, (by decide)⟩ (Nat.le_of_ble_eq_true rfl) (Nat.le_of_ble_eq_true rfl) dX5_findHearer_30
      · skip
        have c64 : j55.toInt < qs_hearers.toInt := i_leF (X := qs_hearers.toInt) (Y := j55.toInt) rfl rfl c64
        refine lv_aload_n C.1 C.2.1 dX5_findHearer_10 rfl (lv_at hl 1 rfl) ?_
        refine x_get C hw iwX5 4 rfl 0 rfl 13 (by decide) kw184 rfl dX5_findHearer_11 ?_
        refine lv_iload_n C.1 C.2.1 dX5_findHearer_14 rfl (lv_at hl 0 rfl) ?_
        refine x_lald (v := (qs_hearerNames_c j55.toNatClampNeg)) C hw 1 rfl (i_in (by omega) (by omega)) rfl dX5_findHearer_15 (x_genl (fun v65 => ?_))
        refine lv_lload_n C.1 C.2.1 dX5_findHearer_16 rfl (lv_at hl 2 rfl) ?_
        refine W.lcmp C.1 C.2.1 dX5_findHearer_17 (x_gen (fun v66 => ?_))
        refine lv_if_ne (tgt := 23) C.1 C.2.1 dX5_findHearer_18 (by decide) (fun c67 => ?_) (fun c67 => ?_)
        · skip
          have c67 : v66.toInt ≠ 0 := i_eqF (X := v66.toInt) (Y := 0) rfl rfl c67
          have bc67_v66 := i_bd v66
          obtain ⟨v68, ev68⟩ : ∃ z : Int32, j55 + 1 = z := ⟨_, rfl⟩
          have hv68 : v68.toInt = j55.toInt + 1 := by rw [← ev68]; exact i_add rfl rfl (by omega) (by omega)
          refine lv_iinc (v := v68) (lv' := [(3, .int v68), (0, .ref qs), (1, .long a1)]) C.1 C.2.1 dX5_findHearer_23 hl (k := 0) rfl ev68 (by decide) rfl (fun ls hl => ?_)
          refine lv_goto (tgt := 2) C.1 C.2.1 dX5_findHearer_26 (by decide) ?_
          exact ihJ56 v68 (by omega) (by omega) _ _ _ hw (lv_sub hl [0, 1, 2] rfl)
        · skip
          have c67 : v66.toInt = 0 := i_eqT (X := v66.toInt) (Y := 0) rfl rfl c67
          have bc67_v66 := i_bd v66
          refine lv_iload_n C.1 C.2.1 dX5_findHearer_21 rfl (lv_at hl 0 rfl) ?_
          exact x_retiQ hQ B hw ⟨j55, rfl, rfl, (by omega)⟩ (Nat.le_of_ble_eq_true rfl) (Nat.le_of_ble_eq_true rfl) dX5_findHearer_22
  exact loopJ56 _ 0 (Nat.lt_succ_self _) (by decide) _ _ _ hw (lv_sub hl [0, 1, 2] rfl)
set_option maxHeartbeats 4000000 in
set_option maxRecDepth 100000 in
theorem s_X5_takeSlide {l : Launch} {G : Gc} (qs : Nat) (qt : Nat) (qs_slides : Int32) (qs_hearers : Int32) (qs_nears : Int32) (qs_lines : Int32) (qs_pass : Int32) (qs_spread : Int32) (qs_lamp : Int32) (qs_behind : Int32) (qs_settingsTold : Int32) (qs_slideNames : Nat) (qs_pictures : Nat) (qs_heats : Nat) (qs_after : Nat) (qs_hearerNames : Nat) (qs_needs : Nat) (qs_likes : Nat) (qs_hates : Nat) (qs_near : Nat) (qs_slideNames_c : Nat → Int64) (qt_keyCodes : Nat) (qt_bytes : Nat) (qt_size : Int32) (qt_most : Int32) (qt_from : Int32) (qt_kind : Int32) (qt_place : Int32) (qt_value : Int32) (qt_code : Int64) (qt_key : Int32) (qt_fault : Int32) (qt_faultPlace : Int32) (qt_keyCodes_c : Nat → Int64) (qt_bytes_c : Nat → Int32) (hi_qs_slides : 0 ≤ qs_slides.toInt ∧ qs_slides.toInt ≤ 6) (hi_qt_size : 0 ≤ qt_size.toInt ∧ qt_size.toInt ≤ 940) : Ci l yX5_takeSlide cX5_takeSlide 3 (some .int) 3 0 0 G [.ref qs, .ref qt] [(qs, .inr (4, [.int qs_slides, .int qs_hearers, .int qs_nears, .int qs_lines, .int qs_pass, .int qs_spread, .int qs_lamp, .int qs_behind, .int qs_settingsTold, .ref qs_slideNames, .ref qs_pictures, .ref qs_heats, .ref qs_after, .ref qs_hearerNames, .ref qs_needs, .ref qs_likes, .ref qs_hates, .ref qs_near])), (qs_slideNames, eJ G 6 qs_slideNames_c), (qt, .inr (8, [.ref qt_keyCodes, .ref qt_bytes, .int qt_size, .int qt_most, .int qt_from, .int qt_kind, .int qt_place, .int qt_value, .long qt_code, .int qt_key, .int qt_fault, .int qt_faultPlace])), (qt_keyCodes, eJ G 27 qt_keyCodes_c), (qt_bytes, eB G 940 qt_bytes_c)] (fun (r9 : Int32) (u9 : va_W) => ∃ (x0_qt_from : Int32) (x1_qt_kind : Int32) (x2_qt_place : Int32) (x3_qt_value : Int32) (x4_qt_code : Int64) (x5_qt_key : Int32) (x6_qt_fault : Int32) (x7_qt_faultPlace : Int32) (r_x : Int32), r9 = r_x ∧ u9 = [(qs, .inr (4, [.int qs_slides, .int qs_hearers, .int qs_nears, .int qs_lines, .int qs_pass, .int qs_spread, .int qs_lamp, .int qs_behind, .int qs_settingsTold, .ref qs_slideNames, .ref qs_pictures, .ref qs_heats, .ref qs_after, .ref qs_hearerNames, .ref qs_needs, .ref qs_likes, .ref qs_hates, .ref qs_near])), (qs_slideNames, eJ G 6 qs_slideNames_c), (qt, .inr (8, [.ref qt_keyCodes, .ref qt_bytes, .int qt_size, .int qt_most, .int x0_qt_from, .int x1_qt_kind, .int x2_qt_place, .int x3_qt_value, .long x4_qt_code, .int x5_qt_key, .int x6_qt_fault, .int x7_qt_faultPlace])), (qt_keyCodes, eJ G 27 qt_keyCodes_c), (qt_bytes, eB G 940 qt_bytes_c)] ∧ (0 ≤ x1_qt_kind.toInt ∧ x1_qt_kind.toInt ≤ 5) ∧ ((-1) ≤ r_x.toInt ∧ r_x.toInt ≤ 5)) := by
  refine Ci.ofQ (by decide) (Nat.le_of_ble_eq_true rfl) ?_
  intro p e s m below meth c ls A args Q hQ B hw hl
  have C : CallFix p m c cX5_takeSlide 3 s args gw "LanternState$Scene" := B.1
  have hl : lv_has ls 3 [(0, .ref qs), (1, .ref qt)] := hl
  refine lv_aload_n C.1 C.2.1 dX5_takeSlide_0 rfl (lv_at hl 1 rfl) ?_
  refine x_callvV (As := []) (rest := []) (wr := [(qs, .inr (4, [.int qs_slides, .int qs_hearers, .int qs_nears, .int qs_lines, .int qs_pass, .int qs_spread, .int qs_lamp, .int qs_behind, .int qs_settingsTold, .ref qs_slideNames, .ref qs_pictures, .ref qs_heats, .ref qs_after, .ref qs_hearerNames, .ref qs_needs, .ref qs_likes, .ref qs_hates, .ref qs_near])), (qs_slideNames, eJ G 6 qs_slideNames_c)]) C hw (s_X9_next qt qt_keyCodes qt_bytes qt_size qt_most qt_from qt_kind qt_place qt_value qt_code qt_key qt_fault qt_faultPlace qt_keyCodes_c qt_bytes_c (by omega)) mwX9_next kw526 [2, 3, 4] [0, 1] rfl rfl rfl rfl (by decide) 0 rfl rfl rfl rfl hl.1 rfl (Nat.le_of_ble_eq_true rfl) ⟨(Nat.le_of_ble_eq_true rfl), (Nat.le_of_ble_eq_true rfl)⟩ ⟨(Nat.le_of_ble_eq_true rfl), (Nat.le_of_ble_eq_true rfl)⟩ dX5_takeSlide_1 (fun  u9 H locs hp9 hw => ?_)
  obtain ⟨x1, x2, x3, x4, x5, x6, rfl, hf7⟩ := hp9
  have hw : Wd G s A [(qs, .inr (4, [.int qs_slides, .int qs_hearers, .int qs_nears, .int qs_lines, .int qs_pass, .int qs_spread, .int qs_lamp, .int qs_behind, .int qs_settingsTold, .ref qs_slideNames, .ref qs_pictures, .ref qs_heats, .ref qs_after, .ref qs_hearerNames, .ref qs_needs, .ref qs_likes, .ref qs_hates, .ref qs_near])), (qs_slideNames, eJ G 6 qs_slideNames_c), (qt, .inr (8, [.ref qt_keyCodes, .ref qt_bytes, .int qt_size, .int qt_most, .int x1, .int x2, .int x3, .int x4, .long x5, .int x6, .int qt_fault, .int qt_faultPlace])), (qt_keyCodes, eJ G 27 qt_keyCodes_c), (qt_bytes, eB G 940 qt_bytes_c)] H _ := hw
  refine lv_aload_n C.1 C.2.1 dX5_takeSlide_4 rfl (lv_at hl 1 rfl) ?_
  refine x_get C hw iwX9 8 rfl 2 rfl 5 (by decide) kw96 rfl dX5_takeSlide_5 ?_
  refine lv_iconst (v := 2) C.1 C.2.1 dX5_takeSlide_8 (by decide) ?_
  have J13 : ∀ (j12 : Int32), ((-1) ≤ j12.toInt ∧ j12.toInt ≤ 5) → ∀ (H : Heap) (locs : List Loc) (ls : Array Slot), Wd G s A [(qs, .inr (4, [.int qs_slides, .int qs_hearers, .int qs_nears, .int qs_lines, .int qs_pass, .int qs_spread, .int qs_lamp, .int qs_behind, .int qs_settingsTold, .ref qs_slideNames, .ref qs_pictures, .ref qs_heats, .ref qs_after, .ref qs_hearerNames, .ref qs_needs, .ref qs_likes, .ref qs_hates, .ref qs_near])), (qs_slideNames, eJ G 6 qs_slideNames_c), (qt, .inr (8, [.ref qt_keyCodes, .ref qt_bytes, .int qt_size, .int qt_most, .int x1, .int x2, .int x3, .int x4, .long x5, .int x6, .int qt_fault, .int qt_faultPlace])), (qt_keyCodes, eJ G 27 qt_keyCodes_c), (qt_bytes, eB G 940 qt_bytes_c)] H locs → lv_has ls 3 [(1, .ref qt)] → W p l e (rmD 3 0 0) s m args below meth c H locs 0 0 Q (F0 m 24 ls [.int j12]) := by
    intro j12 hJ13_0 H locs ls hw hl
    refine lv_istore_n (lv' := [(2, .int j12), (1, .ref qt)]) C.1 C.2.1 dX5_takeSlide_24 rfl hl (by decide) rfl (fun ls hl => ?_)
    refine lv_iload_n C.1 C.2.1 dX5_takeSlide_25 rfl (lv_at hl 0 rfl) ?_
    refine lv_iconst (v := (-1)) C.1 C.2.1 dX5_takeSlide_26 (by decide) ?_
    refine lv_icmp_ne (tgt := 48) C.1 C.2.1 dX5_takeSlide_27 (by decide) (fun c22 => ?_) (fun c22 => ?_)
    · skip
      have c22 : j12.toInt ≠ (-1) := i_eqF (X := j12.toInt) (Y := (-1)) rfl rfl c22
      refine lv_iload_n C.1 C.2.1 dX5_takeSlide_48 rfl (lv_at hl 0 rfl) ?_
      exact x_retiQ hQ B hw ⟨x1, x2, x3, x4, x5, x6, qt_fault, qt_faultPlace, j12, rfl, rfl, (by omega), (by omega)⟩ (Nat.le_of_ble_eq_true rfl) (Nat.le_of_ble_eq_true rfl) dX5_takeSlide_49
    · skip
      have c22 : j12.toInt = (-1) := i_eqT (X := j12.toInt) (Y := (-1)) rfl rfl c22
      refine lv_aload_n C.1 C.2.1 dX5_takeSlide_30 rfl (lv_at hl 1 rfl) ?_
      refine lv_aload_n C.1 C.2.1 dX5_takeSlide_31 rfl (lv_at hl 1 rfl) ?_
      refine x_get C hw iwX9 8 rfl 2 rfl 5 (by decide) kw96 rfl dX5_takeSlide_32 ?_
      refine lv_iconst (v := 2) C.1 C.2.1 dX5_takeSlide_35 (by decide) ?_
      refine lv_icmp_ne (tgt := 43) C.1 C.2.1 dX5_takeSlide_36 (by decide) (fun c23 => ?_) (fun c23 => ?_)
      · skip
        have c23 : x2.toInt ≠ 2 := i_eqF (X := x2.toInt) (Y := 2) rfl rfl c23
        refine lv_iconst (v := 1) C.1 C.2.1 dX5_takeSlide_43 (by decide) ?_
        refine x_calliV (As := [.int 1]) (rest := []) (wr := [(qs, .inr (4, [.int qs_slides, .int qs_hearers, .int qs_nears, .int qs_lines, .int qs_pass, .int qs_spread, .int qs_lamp, .int qs_behind, .int qs_settingsTold, .ref qs_slideNames, .ref qs_pictures, .ref qs_heats, .ref qs_after, .ref qs_hearerNames, .ref qs_needs, .ref qs_likes, .ref qs_hates, .ref qs_near])), (qs_slideNames, eJ G 6 qs_slideNames_c), (qt_keyCodes, eJ G 27 qt_keyCodes_c), (qt_bytes, eB G 940 qt_bytes_c)]) C hw (s_X9_fail qt 1 qt_keyCodes qt_bytes qt_size qt_most x1 x2 x3 x4 x5 x6 qt_fault qt_faultPlace) mwX9_fail kw546 [2] [0, 1, 3, 4] rfl rfl rfl rfl (by decide) 0 rfl rfl rfl rfl hl.1 rfl (Nat.le_of_ble_eq_true rfl) ⟨(Nat.le_of_ble_eq_true rfl), (Nat.le_of_ble_eq_true rfl)⟩ ⟨(Nat.le_of_ble_eq_true rfl), (Nat.le_of_ble_eq_true rfl)⟩ dX5_takeSlide_44 (fun r24 u9 H locs hp9 hw => ?_)
        obtain ⟨x25, x26, rfl, rfl⟩ := hp9
        have hw : Wd G s A [(qs, .inr (4, [.int qs_slides, .int qs_hearers, .int qs_nears, .int qs_lines, .int qs_pass, .int qs_spread, .int qs_lamp, .int qs_behind, .int qs_settingsTold, .ref qs_slideNames, .ref qs_pictures, .ref qs_heats, .ref qs_after, .ref qs_hearerNames, .ref qs_needs, .ref qs_likes, .ref qs_hates, .ref qs_near])), (qs_slideNames, eJ G 6 qs_slideNames_c), (qt_keyCodes, eJ G 27 qt_keyCodes_c), (qt_bytes, eB G 940 qt_bytes_c), (qt, .inr (8, [.ref qt_keyCodes, .ref qt_bytes, .int qt_size, .int qt_most, .int x1, .int x2, .int x3, .int x4, .long x5, .int x6, .int x25, .int x26]))] H _ := hw
        refine lv_pop C.1 C.2.1 dX5_takeSlide_47 rfl ?_
        refine lv_iload_n C.1 C.2.1 dX5_takeSlide_48 rfl (lv_at hl 0 rfl) ?_
        have hw := hw.sub (w' := [(qs, .inr (4, [.int qs_slides, .int qs_hearers, .int qs_nears, .int qs_lines, .int qs_pass, .int qs_spread, .int qs_lamp, .int qs_behind, .int qs_settingsTold, .ref qs_slideNames, .ref qs_pictures, .ref qs_heats, .ref qs_after, .ref qs_hearerNames, .ref qs_needs, .ref qs_likes, .ref qs_hates, .ref qs_near])), (qs_slideNames, eJ G 6 qs_slideNames_c), (qt, .inr (8, [.ref qt_keyCodes, .ref qt_bytes, .int qt_size, .int qt_most, .int x1, .int x2, .int x3, .int x4, .long x5, .int x6, .int x25, .int x26])), (qt_keyCodes, eJ G 27 qt_keyCodes_c), (qt_bytes, eB G 940 qt_bytes_c)]) [0, 1, 4, 2, 3] rfl rfl
        exact x_retiQ hQ B hw ⟨x1, x2, x3, x4, x5, x6, x25, x26, j12, rfl, rfl, (by omega), (by omega)⟩ (Nat.le_of_ble_eq_true rfl) (Nat.le_of_ble_eq_true rfl) dX5_takeSlide_49
      · skip
        have c23 : x2.toInt = 2 := i_eqT (X := x2.toInt) (Y := 2) rfl rfl c23
        refine lv_iconst (v := 3) C.1 C.2.1 dX5_takeSlide_39 (by decide) ?_
        refine lv_goto (tgt := 44) C.1 C.2.1 dX5_takeSlide_40 (by decide) ?_
        refine x_calliV (As := [.int 3]) (rest := []) (wr := [(qs, .inr (4, [.int qs_slides, .int qs_hearers, .int qs_nears, .int qs_lines, .int qs_pass, .int qs_spread, .int qs_lamp, .int qs_behind, .int qs_settingsTold, .ref qs_slideNames, .ref qs_pictures, .ref qs_heats, .ref qs_after, .ref qs_hearerNames, .ref qs_needs, .ref qs_likes, .ref qs_hates, .ref qs_near])), (qs_slideNames, eJ G 6 qs_slideNames_c), (qt_keyCodes, eJ G 27 qt_keyCodes_c), (qt_bytes, eB G 940 qt_bytes_c)]) C hw (s_X9_fail qt 3 qt_keyCodes qt_bytes qt_size qt_most x1 x2 x3 x4 x5 x6 qt_fault qt_faultPlace) mwX9_fail kw546 [2] [0, 1, 3, 4] rfl rfl rfl rfl (by decide) 0 rfl rfl rfl rfl hl.1 rfl (Nat.le_of_ble_eq_true rfl) ⟨(Nat.le_of_ble_eq_true rfl), (Nat.le_of_ble_eq_true rfl)⟩ ⟨(Nat.le_of_ble_eq_true rfl), (Nat.le_of_ble_eq_true rfl)⟩ dX5_takeSlide_44 (fun r27 u9 H locs hp9 hw => ?_)
        obtain ⟨x28, x29, rfl, rfl⟩ := hp9
        have hw : Wd G s A [(qs, .inr (4, [.int qs_slides, .int qs_hearers, .int qs_nears, .int qs_lines, .int qs_pass, .int qs_spread, .int qs_lamp, .int qs_behind, .int qs_settingsTold, .ref qs_slideNames, .ref qs_pictures, .ref qs_heats, .ref qs_after, .ref qs_hearerNames, .ref qs_needs, .ref qs_likes, .ref qs_hates, .ref qs_near])), (qs_slideNames, eJ G 6 qs_slideNames_c), (qt_keyCodes, eJ G 27 qt_keyCodes_c), (qt_bytes, eB G 940 qt_bytes_c), (qt, .inr (8, [.ref qt_keyCodes, .ref qt_bytes, .int qt_size, .int qt_most, .int x1, .int x2, .int x3, .int x4, .long x5, .int x6, .int x28, .int x29]))] H _ := hw
        refine lv_pop C.1 C.2.1 dX5_takeSlide_47 rfl ?_
        refine lv_iload_n C.1 C.2.1 dX5_takeSlide_48 rfl (lv_at hl 0 rfl) ?_
        have hw := hw.sub (w' := [(qs, .inr (4, [.int qs_slides, .int qs_hearers, .int qs_nears, .int qs_lines, .int qs_pass, .int qs_spread, .int qs_lamp, .int qs_behind, .int qs_settingsTold, .ref qs_slideNames, .ref qs_pictures, .ref qs_heats, .ref qs_after, .ref qs_hearerNames, .ref qs_needs, .ref qs_likes, .ref qs_hates, .ref qs_near])), (qs_slideNames, eJ G 6 qs_slideNames_c), (qt, .inr (8, [.ref qt_keyCodes, .ref qt_bytes, .int qt_size, .int qt_most, .int x1, .int x2, .int x3, .int x4, .long x5, .int x6, .int x28, .int x29])), (qt_keyCodes, eJ G 27 qt_keyCodes_c), (qt_bytes, eB G 940 qt_bytes_c)]) [0, 1, 4, 2, 3] rfl rfl
        exact x_retiQ hQ B hw ⟨x1, x2, x3, x4, x5, x6, x28, x29, j12, rfl, rfl, (by omega), (by omega)⟩ (Nat.le_of_ble_eq_true rfl) (Nat.le_of_ble_eq_true rfl) dX5_takeSlide_49
  refine lv_icmp_ne (tgt := 23) C.1 C.2.1 dX5_takeSlide_9 (by decide) (fun c8 => ?_) (fun c8 => ?_)
  · skip
    have c8 : x2.toInt ≠ 2 := i_eqF (X := x2.toInt) (Y := 2) rfl rfl c8
    refine lv_iconst (v := (-1)) C.1 C.2.1 dX5_takeSlide_23 (by decide) ?_
    exact J13 (-1)  (by decide) _ _ _ hw (lv_sub hl [1] rfl)
  · skip
    have c8 : x2.toInt = 2 := i_eqT (X := x2.toInt) (Y := 2) rfl rfl c8
    refine lv_aload_n C.1 C.2.1 dX5_takeSlide_12 rfl (lv_at hl 0 rfl) ?_
    refine lv_aload_n C.1 C.2.1 dX5_takeSlide_13 rfl (lv_at hl 1 rfl) ?_
    refine x_get C hw iwX9 8 rfl 2 rfl 8 (by decide) kw104 rfl dX5_takeSlide_14 ?_
    refine x_calliV (As := [.long x5]) (rest := []) (wr := [(qt, .inr (8, [.ref qt_keyCodes, .ref qt_bytes, .int qt_size, .int qt_most, .int x1, .int x2, .int x3, .int x4, .long x5, .int x6, .int qt_fault, .int qt_faultPlace])), (qt_keyCodes, eJ G 27 qt_keyCodes_c), (qt_bytes, eB G 940 qt_bytes_c)]) C hw (s_X5_findSlide qs x5 qs_slides qs_hearers qs_nears qs_lines qs_pass qs_spread qs_lamp qs_behind qs_settingsTold qs_slideNames qs_pictures qs_heats qs_after qs_hearerNames qs_needs qs_likes qs_hates qs_near qs_slideNames_c (by omega)) mwX5_findSlide kw560 [0, 1] [2, 3, 4] rfl rfl rfl rfl (by decide) 0 rfl rfl rfl rfl hl.1 rfl (Nat.le_of_ble_eq_true rfl) ⟨(Nat.le_of_ble_eq_true rfl), (Nat.le_of_ble_eq_true rfl)⟩ ⟨(Nat.le_of_ble_eq_true rfl), (Nat.le_of_ble_eq_true rfl)⟩ dX5_takeSlide_17 (fun r30 u9 H locs hp9 hw => ?_)
    obtain ⟨x31, rfl, rfl, hf32⟩ := hp9
    have hw : Wd G s A [(qt, .inr (8, [.ref qt_keyCodes, .ref qt_bytes, .int qt_size, .int qt_most, .int x1, .int x2, .int x3, .int x4, .long x5, .int x6, .int qt_fault, .int qt_faultPlace])), (qt_keyCodes, eJ G 27 qt_keyCodes_c), (qt_bytes, eB G 940 qt_bytes_c), (qs, .inr (4, [.int qs_slides, .int qs_hearers, .int qs_nears, .int qs_lines, .int qs_pass, .int qs_spread, .int qs_lamp, .int qs_behind, .int qs_settingsTold, .ref qs_slideNames, .ref qs_pictures, .ref qs_heats, .ref qs_after, .ref qs_hearerNames, .ref qs_needs, .ref qs_likes, .ref qs_hates, .ref qs_near])), (qs_slideNames, eJ G 6 qs_slideNames_c)] H _ := hw
    refine lv_goto (tgt := 24) C.1 C.2.1 dX5_takeSlide_20 (by decide) ?_
    have hw := hw.sub (w' := [(qs, .inr (4, [.int qs_slides, .int qs_hearers, .int qs_nears, .int qs_lines, .int qs_pass, .int qs_spread, .int qs_lamp, .int qs_behind, .int qs_settingsTold, .ref qs_slideNames, .ref qs_pictures, .ref qs_heats, .ref qs_after, .ref qs_hearerNames, .ref qs_needs, .ref qs_likes, .ref qs_hates, .ref qs_near])), (qs_slideNames, eJ G 6 qs_slideNames_c), (qt, .inr (8, [.ref qt_keyCodes, .ref qt_bytes, .int qt_size, .int qt_most, .int x1, .int x2, .int x3, .int x4, .long x5, .int x6, .int qt_fault, .int qt_faultPlace])), (qt_keyCodes, eJ G 27 qt_keyCodes_c), (qt_bytes, eB G 940 qt_bytes_c)]) [3, 4, 0, 1, 2] rfl rfl
    exact J13 r30  (by omega) _ _ _ hw (lv_sub hl [1] rfl)
set_option maxHeartbeats 4000000 in
set_option maxRecDepth 100000 in
theorem s_X5_takeHearer {l : Launch} {G : Gc} (qs : Nat) (qt : Nat) (qs_slides : Int32) (qs_hearers : Int32) (qs_nears : Int32) (qs_lines : Int32) (qs_pass : Int32) (qs_spread : Int32) (qs_lamp : Int32) (qs_behind : Int32) (qs_settingsTold : Int32) (qs_slideNames : Nat) (qs_pictures : Nat) (qs_heats : Nat) (qs_after : Nat) (qs_hearerNames : Nat) (qs_needs : Nat) (qs_likes : Nat) (qs_hates : Nat) (qs_near : Nat) (qs_hearerNames_c : Nat → Int64) (qt_keyCodes : Nat) (qt_bytes : Nat) (qt_size : Int32) (qt_most : Int32) (qt_from : Int32) (qt_kind : Int32) (qt_place : Int32) (qt_value : Int32) (qt_code : Int64) (qt_key : Int32) (qt_fault : Int32) (qt_faultPlace : Int32) (qt_keyCodes_c : Nat → Int64) (qt_bytes_c : Nat → Int32) (hi_qs_hearers : 0 ≤ qs_hearers.toInt ∧ qs_hearers.toInt ≤ 8) (hi_qt_size : 0 ≤ qt_size.toInt ∧ qt_size.toInt ≤ 940) : Ci l yX5_takeHearer cX5_takeHearer 3 (some .int) 3 0 0 G [.ref qs, .ref qt] [(qs, .inr (4, [.int qs_slides, .int qs_hearers, .int qs_nears, .int qs_lines, .int qs_pass, .int qs_spread, .int qs_lamp, .int qs_behind, .int qs_settingsTold, .ref qs_slideNames, .ref qs_pictures, .ref qs_heats, .ref qs_after, .ref qs_hearerNames, .ref qs_needs, .ref qs_likes, .ref qs_hates, .ref qs_near])), (qs_hearerNames, eJ G 8 qs_hearerNames_c), (qt, .inr (8, [.ref qt_keyCodes, .ref qt_bytes, .int qt_size, .int qt_most, .int qt_from, .int qt_kind, .int qt_place, .int qt_value, .long qt_code, .int qt_key, .int qt_fault, .int qt_faultPlace])), (qt_keyCodes, eJ G 27 qt_keyCodes_c), (qt_bytes, eB G 940 qt_bytes_c)] (fun (r9 : Int32) (u9 : va_W) => ∃ (x0_qt_from : Int32) (x1_qt_kind : Int32) (x2_qt_place : Int32) (x3_qt_value : Int32) (x4_qt_code : Int64) (x5_qt_key : Int32) (x6_qt_fault : Int32) (x7_qt_faultPlace : Int32) (r_x : Int32), r9 = r_x ∧ u9 = [(qs, .inr (4, [.int qs_slides, .int qs_hearers, .int qs_nears, .int qs_lines, .int qs_pass, .int qs_spread, .int qs_lamp, .int qs_behind, .int qs_settingsTold, .ref qs_slideNames, .ref qs_pictures, .ref qs_heats, .ref qs_after, .ref qs_hearerNames, .ref qs_needs, .ref qs_likes, .ref qs_hates, .ref qs_near])), (qs_hearerNames, eJ G 8 qs_hearerNames_c), (qt, .inr (8, [.ref qt_keyCodes, .ref qt_bytes, .int qt_size, .int qt_most, .int x0_qt_from, .int x1_qt_kind, .int x2_qt_place, .int x3_qt_value, .long x4_qt_code, .int x5_qt_key, .int x6_qt_fault, .int x7_qt_faultPlace])), (qt_keyCodes, eJ G 27 qt_keyCodes_c), (qt_bytes, eB G 940 qt_bytes_c)] ∧ (0 ≤ x1_qt_kind.toInt ∧ x1_qt_kind.toInt ≤ 5) ∧ ((-1) ≤ r_x.toInt ∧ r_x.toInt ≤ 7)) := by
  refine Ci.ofQ (by decide) (Nat.le_of_ble_eq_true rfl) ?_
  intro p e s m below meth c ls A args Q hQ B hw hl
  have C : CallFix p m c cX5_takeHearer 3 s args gw "LanternState$Scene" := B.1
  have hl : lv_has ls 3 [(0, .ref qs), (1, .ref qt)] := hl
  refine lv_aload_n C.1 C.2.1 dX5_takeHearer_0 rfl (lv_at hl 1 rfl) ?_
  refine x_callvV (As := []) (rest := []) (wr := [(qs, .inr (4, [.int qs_slides, .int qs_hearers, .int qs_nears, .int qs_lines, .int qs_pass, .int qs_spread, .int qs_lamp, .int qs_behind, .int qs_settingsTold, .ref qs_slideNames, .ref qs_pictures, .ref qs_heats, .ref qs_after, .ref qs_hearerNames, .ref qs_needs, .ref qs_likes, .ref qs_hates, .ref qs_near])), (qs_hearerNames, eJ G 8 qs_hearerNames_c)]) C hw (s_X9_next qt qt_keyCodes qt_bytes qt_size qt_most qt_from qt_kind qt_place qt_value qt_code qt_key qt_fault qt_faultPlace qt_keyCodes_c qt_bytes_c (by omega)) mwX9_next kw526 [2, 3, 4] [0, 1] rfl rfl rfl rfl (by decide) 0 rfl rfl rfl rfl hl.1 rfl (Nat.le_of_ble_eq_true rfl) ⟨(Nat.le_of_ble_eq_true rfl), (Nat.le_of_ble_eq_true rfl)⟩ ⟨(Nat.le_of_ble_eq_true rfl), (Nat.le_of_ble_eq_true rfl)⟩ dX5_takeHearer_1 (fun  u9 H locs hp9 hw => ?_)
  obtain ⟨x1, x2, x3, x4, x5, x6, rfl, hf7⟩ := hp9
  have hw : Wd G s A [(qs, .inr (4, [.int qs_slides, .int qs_hearers, .int qs_nears, .int qs_lines, .int qs_pass, .int qs_spread, .int qs_lamp, .int qs_behind, .int qs_settingsTold, .ref qs_slideNames, .ref qs_pictures, .ref qs_heats, .ref qs_after, .ref qs_hearerNames, .ref qs_needs, .ref qs_likes, .ref qs_hates, .ref qs_near])), (qs_hearerNames, eJ G 8 qs_hearerNames_c), (qt, .inr (8, [.ref qt_keyCodes, .ref qt_bytes, .int qt_size, .int qt_most, .int x1, .int x2, .int x3, .int x4, .long x5, .int x6, .int qt_fault, .int qt_faultPlace])), (qt_keyCodes, eJ G 27 qt_keyCodes_c), (qt_bytes, eB G 940 qt_bytes_c)] H _ := hw
  refine lv_aload_n C.1 C.2.1 dX5_takeHearer_4 rfl (lv_at hl 1 rfl) ?_
  refine x_get C hw iwX9 8 rfl 2 rfl 5 (by decide) kw96 rfl dX5_takeHearer_5 ?_
  refine lv_iconst (v := 2) C.1 C.2.1 dX5_takeHearer_8 (by decide) ?_
  have J13 : ∀ (j12 : Int32), ((-1) ≤ j12.toInt ∧ j12.toInt ≤ 7) → ∀ (H : Heap) (locs : List Loc) (ls : Array Slot), Wd G s A [(qs, .inr (4, [.int qs_slides, .int qs_hearers, .int qs_nears, .int qs_lines, .int qs_pass, .int qs_spread, .int qs_lamp, .int qs_behind, .int qs_settingsTold, .ref qs_slideNames, .ref qs_pictures, .ref qs_heats, .ref qs_after, .ref qs_hearerNames, .ref qs_needs, .ref qs_likes, .ref qs_hates, .ref qs_near])), (qs_hearerNames, eJ G 8 qs_hearerNames_c), (qt, .inr (8, [.ref qt_keyCodes, .ref qt_bytes, .int qt_size, .int qt_most, .int x1, .int x2, .int x3, .int x4, .long x5, .int x6, .int qt_fault, .int qt_faultPlace])), (qt_keyCodes, eJ G 27 qt_keyCodes_c), (qt_bytes, eB G 940 qt_bytes_c)] H locs → lv_has ls 3 [(1, .ref qt)] → W p l e (rmD 3 0 0) s m args below meth c H locs 0 0 Q (F0 m 24 ls [.int j12]) := by
    intro j12 hJ13_0 H locs ls hw hl
    refine lv_istore_n (lv' := [(2, .int j12), (1, .ref qt)]) C.1 C.2.1 dX5_takeHearer_24 rfl hl (by decide) rfl (fun ls hl => ?_)
    refine lv_iload_n C.1 C.2.1 dX5_takeHearer_25 rfl (lv_at hl 0 rfl) ?_
    refine lv_iconst (v := (-1)) C.1 C.2.1 dX5_takeHearer_26 (by decide) ?_
    refine lv_icmp_ne (tgt := 48) C.1 C.2.1 dX5_takeHearer_27 (by decide) (fun c22 => ?_) (fun c22 => ?_)
    · skip
      have c22 : j12.toInt ≠ (-1) := i_eqF (X := j12.toInt) (Y := (-1)) rfl rfl c22
      refine lv_iload_n C.1 C.2.1 dX5_takeHearer_48 rfl (lv_at hl 0 rfl) ?_
      exact x_retiQ hQ B hw ⟨x1, x2, x3, x4, x5, x6, qt_fault, qt_faultPlace, j12, rfl, rfl, (by omega), (by omega)⟩ (Nat.le_of_ble_eq_true rfl) (Nat.le_of_ble_eq_true rfl) dX5_takeHearer_49
    · skip
      have c22 : j12.toInt = (-1) := i_eqT (X := j12.toInt) (Y := (-1)) rfl rfl c22
      refine lv_aload_n C.1 C.2.1 dX5_takeHearer_30 rfl (lv_at hl 1 rfl) ?_
      refine lv_aload_n C.1 C.2.1 dX5_takeHearer_31 rfl (lv_at hl 1 rfl) ?_
      refine x_get C hw iwX9 8 rfl 2 rfl 5 (by decide) kw96 rfl dX5_takeHearer_32 ?_
      refine lv_iconst (v := 2) C.1 C.2.1 dX5_takeHearer_35 (by decide) ?_
      refine lv_icmp_ne (tgt := 43) C.1 C.2.1 dX5_takeHearer_36 (by decide) (fun c23 => ?_) (fun c23 => ?_)
      · skip
        have c23 : x2.toInt ≠ 2 := i_eqF (X := x2.toInt) (Y := 2) rfl rfl c23
        refine lv_iconst (v := 1) C.1 C.2.1 dX5_takeHearer_43 (by decide) ?_
        refine x_calliV (As := [.int 1]) (rest := []) (wr := [(qs, .inr (4, [.int qs_slides, .int qs_hearers, .int qs_nears, .int qs_lines, .int qs_pass, .int qs_spread, .int qs_lamp, .int qs_behind, .int qs_settingsTold, .ref qs_slideNames, .ref qs_pictures, .ref qs_heats, .ref qs_after, .ref qs_hearerNames, .ref qs_needs, .ref qs_likes, .ref qs_hates, .ref qs_near])), (qs_hearerNames, eJ G 8 qs_hearerNames_c), (qt_keyCodes, eJ G 27 qt_keyCodes_c), (qt_bytes, eB G 940 qt_bytes_c)]) C hw (s_X9_fail qt 1 qt_keyCodes qt_bytes qt_size qt_most x1 x2 x3 x4 x5 x6 qt_fault qt_faultPlace) mwX9_fail kw546 [2] [0, 1, 3, 4] rfl rfl rfl rfl (by decide) 0 rfl rfl rfl rfl hl.1 rfl (Nat.le_of_ble_eq_true rfl) ⟨(Nat.le_of_ble_eq_true rfl), (Nat.le_of_ble_eq_true rfl)⟩ ⟨(Nat.le_of_ble_eq_true rfl), (Nat.le_of_ble_eq_true rfl)⟩ dX5_takeHearer_44 (fun r24 u9 H locs hp9 hw => ?_)
        obtain ⟨x25, x26, rfl, rfl⟩ := hp9
        have hw : Wd G s A [(qs, .inr (4, [.int qs_slides, .int qs_hearers, .int qs_nears, .int qs_lines, .int qs_pass, .int qs_spread, .int qs_lamp, .int qs_behind, .int qs_settingsTold, .ref qs_slideNames, .ref qs_pictures, .ref qs_heats, .ref qs_after, .ref qs_hearerNames, .ref qs_needs, .ref qs_likes, .ref qs_hates, .ref qs_near])), (qs_hearerNames, eJ G 8 qs_hearerNames_c), (qt_keyCodes, eJ G 27 qt_keyCodes_c), (qt_bytes, eB G 940 qt_bytes_c), (qt, .inr (8, [.ref qt_keyCodes, .ref qt_bytes, .int qt_size, .int qt_most, .int x1, .int x2, .int x3, .int x4, .long x5, .int x6, .int x25, .int x26]))] H _ := hw
        refine lv_pop C.1 C.2.1 dX5_takeHearer_47 rfl ?_
        refine lv_iload_n C.1 C.2.1 dX5_takeHearer_48 rfl (lv_at hl 0 rfl) ?_
        have hw := hw.sub (w' := [(qs, .inr (4, [.int qs_slides, .int qs_hearers, .int qs_nears, .int qs_lines, .int qs_pass, .int qs_spread, .int qs_lamp, .int qs_behind, .int qs_settingsTold, .ref qs_slideNames, .ref qs_pictures, .ref qs_heats, .ref qs_after, .ref qs_hearerNames, .ref qs_needs, .ref qs_likes, .ref qs_hates, .ref qs_near])), (qs_hearerNames, eJ G 8 qs_hearerNames_c), (qt, .inr (8, [.ref qt_keyCodes, .ref qt_bytes, .int qt_size, .int qt_most, .int x1, .int x2, .int x3, .int x4, .long x5, .int x6, .int x25, .int x26])), (qt_keyCodes, eJ G 27 qt_keyCodes_c), (qt_bytes, eB G 940 qt_bytes_c)]) [0, 1, 4, 2, 3] rfl rfl
        exact x_retiQ hQ B hw ⟨x1, x2, x3, x4, x5, x6, x25, x26, j12, rfl, rfl, (by omega), (by omega)⟩ (Nat.le_of_ble_eq_true rfl) (Nat.le_of_ble_eq_true rfl) dX5_takeHearer_49
      · skip
        have c23 : x2.toInt = 2 := i_eqT (X := x2.toInt) (Y := 2) rfl rfl c23
        refine lv_iconst (v := 3) C.1 C.2.1 dX5_takeHearer_39 (by decide) ?_
        refine lv_goto (tgt := 44) C.1 C.2.1 dX5_takeHearer_40 (by decide) ?_
        refine x_calliV (As := [.int 3]) (rest := []) (wr := [(qs, .inr (4, [.int qs_slides, .int qs_hearers, .int qs_nears, .int qs_lines, .int qs_pass, .int qs_spread, .int qs_lamp, .int qs_behind, .int qs_settingsTold, .ref qs_slideNames, .ref qs_pictures, .ref qs_heats, .ref qs_after, .ref qs_hearerNames, .ref qs_needs, .ref qs_likes, .ref qs_hates, .ref qs_near])), (qs_hearerNames, eJ G 8 qs_hearerNames_c), (qt_keyCodes, eJ G 27 qt_keyCodes_c), (qt_bytes, eB G 940 qt_bytes_c)]) C hw (s_X9_fail qt 3 qt_keyCodes qt_bytes qt_size qt_most x1 x2 x3 x4 x5 x6 qt_fault qt_faultPlace) mwX9_fail kw546 [2] [0, 1, 3, 4] rfl rfl rfl rfl (by decide) 0 rfl rfl rfl rfl hl.1 rfl (Nat.le_of_ble_eq_true rfl) ⟨(Nat.le_of_ble_eq_true rfl), (Nat.le_of_ble_eq_true rfl)⟩ ⟨(Nat.le_of_ble_eq_true rfl), (Nat.le_of_ble_eq_true rfl)⟩ dX5_takeHearer_44 (fun r27 u9 H locs hp9 hw => ?_)
        obtain ⟨x28, x29, rfl, rfl⟩ := hp9
        have hw : Wd G s A [(qs, .inr (4, [.int qs_slides, .int qs_hearers, .int qs_nears, .int qs_lines, .int qs_pass, .int qs_spread, .int qs_lamp, .int qs_behind, .int qs_settingsTold, .ref qs_slideNames, .ref qs_pictures, .ref qs_heats, .ref qs_after, .ref qs_hearerNames, .ref qs_needs, .ref qs_likes, .ref qs_hates, .ref qs_near])), (qs_hearerNames, eJ G 8 qs_hearerNames_c), (qt_keyCodes, eJ G 27 qt_keyCodes_c), (qt_bytes, eB G 940 qt_bytes_c), (qt, .inr (8, [.ref qt_keyCodes, .ref qt_bytes, .int qt_size, .int qt_most, .int x1, .int x2, .int x3, .int x4, .long x5, .int x6, .int x28, .int x29]))] H _ := hw
        refine lv_pop C.1 C.2.1 dX5_takeHearer_47 rfl ?_
        refine lv_iload_n C.1 C.2.1 dX5_takeHearer_48 rfl (lv_at hl 0 rfl) ?_
        have hw := hw.sub (w' := [(qs, .inr (4, [.int qs_slides, .int qs_hearers, .int qs_nears, .int qs_lines, .int qs_pass, .int qs_spread, .int qs_lamp, .int qs_behind, .int qs_settingsTold, .ref qs_slideNames, .ref qs_pictures, .ref qs_heats, .ref qs_after, .ref qs_hearerNames, .ref qs_needs, .ref qs_likes, .ref qs_hates, .ref qs_near])), (qs_hearerNames, eJ G 8 qs_hearerNames_c), (qt, .inr (8, [.ref qt_keyCodes, .ref qt_bytes, .int qt_size, .int qt_most, .int x1, .int x2, .int x3, .int x4, .long x5, .int x6, .int x28, .int x29])), (qt_keyCodes, eJ G 27 qt_keyCodes_c), (qt_bytes, eB G 940 qt_bytes_c)]) [0, 1, 4, 2, 3] rfl rfl
        exact x_retiQ hQ B hw ⟨x1, x2, x3, x4, x5, x6, x28, x29, j12, rfl, rfl, (by omega), (by omega)⟩ (Nat.le_of_ble_eq_true rfl) (Nat.le_of_ble_eq_true rfl) dX5_takeHearer_49
  refine lv_icmp_ne (tgt := 23) C.1 C.2.1 dX5_takeHearer_9 (by decide) (fun c8 => ?_) (fun c8 => ?_)
  · skip
    have c8 : x2.toInt ≠ 2 := i_eqF (X := x2.toInt) (Y := 2) rfl rfl c8
    refine lv_iconst (v := (-1)) C.1 C.2.1 dX5_takeHearer_23 (by decide) ?_
    exact J13 (-1)  (by decide) _ _ _ hw (lv_sub hl [1] rfl)
  · skip
    have c8 : x2.toInt = 2 := i_eqT (X := x2.toInt) (Y := 2) rfl rfl c8
    refine lv_aload_n C.1 C.2.1 dX5_takeHearer_12 rfl (lv_at hl 0 rfl) ?_
    refine lv_aload_n C.1 C.2.1 dX5_takeHearer_13 rfl (lv_at hl 1 rfl) ?_
    refine x_get C hw iwX9 8 rfl 2 rfl 8 (by decide) kw104 rfl dX5_takeHearer_14 ?_
    refine x_calliV (As := [.long x5]) (rest := []) (wr := [(qt, .inr (8, [.ref qt_keyCodes, .ref qt_bytes, .int qt_size, .int qt_most, .int x1, .int x2, .int x3, .int x4, .long x5, .int x6, .int qt_fault, .int qt_faultPlace])), (qt_keyCodes, eJ G 27 qt_keyCodes_c), (qt_bytes, eB G 940 qt_bytes_c)]) C hw (s_X5_findHearer qs x5 qs_slides qs_hearers qs_nears qs_lines qs_pass qs_spread qs_lamp qs_behind qs_settingsTold qs_slideNames qs_pictures qs_heats qs_after qs_hearerNames qs_needs qs_likes qs_hates qs_near qs_hearerNames_c (by omega)) mwX5_findHearer kw564 [0, 1] [2, 3, 4] rfl rfl rfl rfl (by decide) 0 rfl rfl rfl rfl hl.1 rfl (Nat.le_of_ble_eq_true rfl) ⟨(Nat.le_of_ble_eq_true rfl), (Nat.le_of_ble_eq_true rfl)⟩ ⟨(Nat.le_of_ble_eq_true rfl), (Nat.le_of_ble_eq_true rfl)⟩ dX5_takeHearer_17 (fun r30 u9 H locs hp9 hw => ?_)
    obtain ⟨x31, rfl, rfl, hf32⟩ := hp9
    have hw : Wd G s A [(qt, .inr (8, [.ref qt_keyCodes, .ref qt_bytes, .int qt_size, .int qt_most, .int x1, .int x2, .int x3, .int x4, .long x5, .int x6, .int qt_fault, .int qt_faultPlace])), (qt_keyCodes, eJ G 27 qt_keyCodes_c), (qt_bytes, eB G 940 qt_bytes_c), (qs, .inr (4, [.int qs_slides, .int qs_hearers, .int qs_nears, .int qs_lines, .int qs_pass, .int qs_spread, .int qs_lamp, .int qs_behind, .int qs_settingsTold, .ref qs_slideNames, .ref qs_pictures, .ref qs_heats, .ref qs_after, .ref qs_hearerNames, .ref qs_needs, .ref qs_likes, .ref qs_hates, .ref qs_near])), (qs_hearerNames, eJ G 8 qs_hearerNames_c)] H _ := hw
    refine lv_goto (tgt := 24) C.1 C.2.1 dX5_takeHearer_20 (by decide) ?_
    have hw := hw.sub (w' := [(qs, .inr (4, [.int qs_slides, .int qs_hearers, .int qs_nears, .int qs_lines, .int qs_pass, .int qs_spread, .int qs_lamp, .int qs_behind, .int qs_settingsTold, .ref qs_slideNames, .ref qs_pictures, .ref qs_heats, .ref qs_after, .ref qs_hearerNames, .ref qs_needs, .ref qs_likes, .ref qs_hates, .ref qs_near])), (qs_hearerNames, eJ G 8 qs_hearerNames_c), (qt, .inr (8, [.ref qt_keyCodes, .ref qt_bytes, .int qt_size, .int qt_most, .int x1, .int x2, .int x3, .int x4, .long x5, .int x6, .int qt_fault, .int qt_faultPlace])), (qt_keyCodes, eJ G 27 qt_keyCodes_c), (qt_bytes, eB G 940 qt_bytes_c)]) [3, 4, 0, 1, 2] rfl rfl
    exact J13 r30  (by omega) _ _ _ hw (lv_sub hl [1] rfl)
set_option maxHeartbeats 4000000 in
set_option maxRecDepth 100000 in
theorem s_X5_isTold {l : Launch} {G : Gc} (qs : Nat) (a1 : Int64) (qs_slides : Int32) (qs_hearers : Int32) (qs_nears : Int32) (qs_lines : Int32) (qs_pass : Int32) (qs_spread : Int32) (qs_lamp : Int32) (qs_behind : Int32) (qs_settingsTold : Int32) (qs_slideNames : Nat) (qs_pictures : Nat) (qs_heats : Nat) (qs_after : Nat) (qs_hearerNames : Nat) (qs_needs : Nat) (qs_likes : Nat) (qs_hates : Nat) (qs_near : Nat) (qs_slideNames_c : Nat → Int64) (qs_hearerNames_c : Nat → Int64) (hi_qs_slides : 0 ≤ qs_slides.toInt ∧ qs_slides.toInt ≤ 6) (hi_qs_hearers : 0 ≤ qs_hearers.toInt ∧ qs_hearers.toInt ≤ 8) : Ci l yX5_isTold cX5_isTold 3 (some .boolean) 1 0 0 G [.ref qs, .long a1] [(qs, .inr (4, [.int qs_slides, .int qs_hearers, .int qs_nears, .int qs_lines, .int qs_pass, .int qs_spread, .int qs_lamp, .int qs_behind, .int qs_settingsTold, .ref qs_slideNames, .ref qs_pictures, .ref qs_heats, .ref qs_after, .ref qs_hearerNames, .ref qs_needs, .ref qs_likes, .ref qs_hates, .ref qs_near])), (qs_slideNames, eJ G 6 qs_slideNames_c), (qs_hearerNames, eJ G 8 qs_hearerNames_c)] (fun (r9 : Int32) (u9 : va_W) => (r9 = 0 ∧ u9 = [(qs, .inr (4, [.int qs_slides, .int qs_hearers, .int qs_nears, .int qs_lines, .int qs_pass, .int qs_spread, .int qs_lamp, .int qs_behind, .int qs_settingsTold, .ref qs_slideNames, .ref qs_pictures, .ref qs_heats, .ref qs_after, .ref qs_hearerNames, .ref qs_needs, .ref qs_likes, .ref qs_hates, .ref qs_near])), (qs_slideNames, eJ G 6 qs_slideNames_c), (qs_hearerNames, eJ G 8 qs_hearerNames_c)]) ∨ (r9 = 1 ∧ u9 = [(qs, .inr (4, [.int qs_slides, .int qs_hearers, .int qs_nears, .int qs_lines, .int qs_pass, .int qs_spread, .int qs_lamp, .int qs_behind, .int qs_settingsTold, .ref qs_slideNames, .ref qs_pictures, .ref qs_heats, .ref qs_after, .ref qs_hearerNames, .ref qs_needs, .ref qs_likes, .ref qs_hates, .ref qs_near])), (qs_slideNames, eJ G 6 qs_slideNames_c), (qs_hearerNames, eJ G 8 qs_hearerNames_c)])) := by
  refine Ci.ofQ (by decide) (Nat.le_of_ble_eq_true rfl) ?_
  intro p e s m below meth c ls A args Q hQ B hw hl
  have C : CallFix p m c cX5_isTold 3 s args gw "LanternState$Scene" := B.1
  have hl : lv_has ls 3 [(0, .ref qs), (1, .long a1)] := hl
  refine lv_aload_n C.1 C.2.1 dX5_isTold_0 rfl (lv_at hl 0 rfl) ?_
  refine lv_lload_n C.1 C.2.1 dX5_isTold_1 rfl (lv_at hl 1 rfl) ?_
  refine x_calliV (As := [.long a1]) (rest := []) (wr := [(qs_hearerNames, eJ G 8 qs_hearerNames_c)]) C hw (s_X5_findSlide qs a1 qs_slides qs_hearers qs_nears qs_lines qs_pass qs_spread qs_lamp qs_behind qs_settingsTold qs_slideNames qs_pictures qs_heats qs_after qs_hearerNames qs_needs qs_likes qs_hates qs_near qs_slideNames_c (by omega)) mwX5_findSlide kw560 [0, 1] [2] rfl rfl rfl rfl (by decide) 0 rfl rfl rfl rfl hl.1 rfl (Nat.le_of_ble_eq_true rfl) ⟨(Nat.le_of_ble_eq_true rfl), (Nat.le_of_ble_eq_true rfl)⟩ ⟨(Nat.le_of_ble_eq_true rfl), (Nat.le_of_ble_eq_true rfl)⟩ dX5_isTold_2 (fun r1 u9 H locs hp9 hw => ?_)
  obtain ⟨x2, rfl, rfl, hf3⟩ := hp9
  have hw : Wd G s A [(qs_hearerNames, eJ G 8 qs_hearerNames_c), (qs, .inr (4, [.int qs_slides, .int qs_hearers, .int qs_nears, .int qs_lines, .int qs_pass, .int qs_spread, .int qs_lamp, .int qs_behind, .int qs_settingsTold, .ref qs_slideNames, .ref qs_pictures, .ref qs_heats, .ref qs_after, .ref qs_hearerNames, .ref qs_needs, .ref qs_likes, .ref qs_hates, .ref qs_near])), (qs_slideNames, eJ G 6 qs_slideNames_c)] H _ := hw
  refine lv_iconst (v := (-1)) C.1 C.2.1 dX5_isTold_5 (by decide) ?_
  refine lv_icmp_ne (tgt := 18) C.1 C.2.1 dX5_isTold_6 (by decide) (fun c4 => ?_) (fun c4 => ?_)
  · skip
    have c4 : r1.toInt ≠ (-1) := i_eqF (X := r1.toInt) (Y := (-1)) rfl rfl c4
    refine lv_iconst (v := 1) C.1 C.2.1 dX5_isTold_18 (by decide) ?_
    refine lv_goto (tgt := 23) C.1 C.2.1 dX5_isTold_19 (by decide) ?_
    have hw := hw.sub (w' := [(qs, .inr (4, [.int qs_slides, .int qs_hearers, .int qs_nears, .int qs_lines, .int qs_pass, .int qs_spread, .int qs_lamp, .int qs_behind, .int qs_settingsTold, .ref qs_slideNames, .ref qs_pictures, .ref qs_heats, .ref qs_after, .ref qs_hearerNames, .ref qs_needs, .ref qs_likes, .ref qs_hates, .ref qs_near])), (qs_slideNames, eJ G 6 qs_slideNames_c), (qs_hearerNames, eJ G 8 qs_hearerNames_c)]) [1, 2, 0] rfl rfl
    exact x_retzQ hQ B hw rfl (Or.inr ⟨rfl, rfl⟩) (Nat.le_of_ble_eq_true rfl) (Nat.le_of_ble_eq_true rfl) dX5_isTold_23
  · skip
    have c4 : r1.toInt = (-1) := i_eqT (X := r1.toInt) (Y := (-1)) rfl rfl c4
    refine lv_aload_n C.1 C.2.1 dX5_isTold_9 rfl (lv_at hl 0 rfl) ?_
    refine lv_lload_n C.1 C.2.1 dX5_isTold_10 rfl (lv_at hl 1 rfl) ?_
    refine x_calliV (As := [.long a1]) (rest := []) (wr := [(qs_slideNames, eJ G 6 qs_slideNames_c)]) C hw (s_X5_findHearer qs a1 qs_slides qs_hearers qs_nears qs_lines qs_pass qs_spread qs_lamp qs_behind qs_settingsTold qs_slideNames qs_pictures qs_heats qs_after qs_hearerNames qs_needs qs_likes qs_hates qs_near qs_hearerNames_c (by omega)) mwX5_findHearer kw564 [1, 0] [2] rfl rfl rfl rfl (by decide) 0 rfl rfl rfl rfl hl.1 rfl (Nat.le_of_ble_eq_true rfl) ⟨(Nat.le_of_ble_eq_true rfl), (Nat.le_of_ble_eq_true rfl)⟩ ⟨(Nat.le_of_ble_eq_true rfl), (Nat.le_of_ble_eq_true rfl)⟩ dX5_isTold_11 (fun r5 u9 H locs hp9 hw => ?_)
    obtain ⟨x6, rfl, rfl, hf7⟩ := hp9
    have hw : Wd G s A [(qs_slideNames, eJ G 6 qs_slideNames_c), (qs, .inr (4, [.int qs_slides, .int qs_hearers, .int qs_nears, .int qs_lines, .int qs_pass, .int qs_spread, .int qs_lamp, .int qs_behind, .int qs_settingsTold, .ref qs_slideNames, .ref qs_pictures, .ref qs_heats, .ref qs_after, .ref qs_hearerNames, .ref qs_needs, .ref qs_likes, .ref qs_hates, .ref qs_near])), (qs_hearerNames, eJ G 8 qs_hearerNames_c)] H _ := hw
    refine lv_iconst (v := (-1)) C.1 C.2.1 dX5_isTold_14 (by decide) ?_
    refine lv_icmp_eq (tgt := 22) C.1 C.2.1 dX5_isTold_15 (by decide) (fun c8 => ?_) (fun c8 => ?_)
    · skip
      have c8 : r5.toInt = (-1) := i_eqT (X := r5.toInt) (Y := (-1)) rfl rfl c8
      refine lv_iconst (v := 0) C.1 C.2.1 dX5_isTold_22 (by decide) ?_
      have hw := hw.sub (w' := [(qs, .inr (4, [.int qs_slides, .int qs_hearers, .int qs_nears, .int qs_lines, .int qs_pass, .int qs_spread, .int qs_lamp, .int qs_behind, .int qs_settingsTold, .ref qs_slideNames, .ref qs_pictures, .ref qs_heats, .ref qs_after, .ref qs_hearerNames, .ref qs_needs, .ref qs_likes, .ref qs_hates, .ref qs_near])), (qs_slideNames, eJ G 6 qs_slideNames_c), (qs_hearerNames, eJ G 8 qs_hearerNames_c)]) [1, 0, 2] rfl rfl
      exact x_retzQ hQ B hw rfl (Or.inl ⟨rfl, rfl⟩) (Nat.le_of_ble_eq_true rfl) (Nat.le_of_ble_eq_true rfl) dX5_isTold_23
    · skip
      have c8 : r5.toInt ≠ (-1) := i_eqF (X := r5.toInt) (Y := (-1)) rfl rfl c8
      refine lv_iconst (v := 1) C.1 C.2.1 dX5_isTold_18 (by decide) ?_
      refine lv_goto (tgt := 23) C.1 C.2.1 dX5_isTold_19 (by decide) ?_
      have hw := hw.sub (w' := [(qs, .inr (4, [.int qs_slides, .int qs_hearers, .int qs_nears, .int qs_lines, .int qs_pass, .int qs_spread, .int qs_lamp, .int qs_behind, .int qs_settingsTold, .ref qs_slideNames, .ref qs_pictures, .ref qs_heats, .ref qs_after, .ref qs_hearerNames, .ref qs_needs, .ref qs_likes, .ref qs_hates, .ref qs_near])), (qs_slideNames, eJ G 6 qs_slideNames_c), (qs_hearerNames, eJ G 8 qs_hearerNames_c)]) [1, 0, 2] rfl rfl
      exact x_retzQ hQ B hw rfl (Or.inr ⟨rfl, rfl⟩) (Nat.le_of_ble_eq_true rfl) (Nat.le_of_ble_eq_true rfl) dX5_isTold_23
theorem dX5_isEnough_0 : decode cX5_isEnough 0 = .ok (.iload_n 1, 1) := by decide +kernel
theorem dX5_isEnough_1 : decode cX5_isEnough 1 = .ok (.invokestatic 174, 3) := by decide +kernel
theorem mwJ6_bitCount_0f7a4 : MwS yJ6_bitCount_0f7a4 cJ6_bitCount_0f7a4 1 (some .int) 1 := ⟨⟨kw723, kw22, by decide +kernel⟩, kw722⟩
theorem dX5_isEnough_4 : decode cX5_isEnough 4 = .ok (.aload_n 0, 1) := by decide +kernel
theorem dX5_isEnough_5 : decode cX5_isEnough 5 = .ok (.getfield 9, 3) := by decide +kernel
theorem dX5_isEnough_8 : decode cX5_isEnough 8 = .ok (.if_icmp .lt 7, 3) := by decide +kernel
theorem dX5_isEnough_15 : decode cX5_isEnough 15 = .ok (.iconst 0, 1) := by decide +kernel
theorem dX5_isEnough_16 : decode cX5_isEnough 16 = .ok (.ireturn, 1) := by decide +kernel
theorem dX5_isEnough_11 : decode cX5_isEnough 11 = .ok (.iconst 1, 1) := by decide +kernel
theorem dX5_isEnough_12 : decode cX5_isEnough 12 = .ok (.goto 4, 3) := by decide +kernel
set_option maxHeartbeats 4000000 in
set_option maxRecDepth 100000 in
theorem s_X5_isEnough {l : Launch} {G : Gc} (qs : Nat) (a1 : Int32) (qs_slides : Int32) (qs_hearers : Int32) (qs_nears : Int32) (qs_lines : Int32) (qs_pass : Int32) (qs_spread : Int32) (qs_lamp : Int32) (qs_behind : Int32) (qs_settingsTold : Int32) (qs_slideNames : Nat) (qs_pictures : Nat) (qs_heats : Nat) (qs_after : Nat) (qs_hearerNames : Nat) (qs_needs : Nat) (qs_likes : Nat) (qs_hates : Nat) (qs_near : Nat)  : Ci l yX5_isEnough cX5_isEnough 2 (some .boolean) 1 0 0 G [.ref qs, .int a1] [(qs, .inr (4, [.int qs_slides, .int qs_hearers, .int qs_nears, .int qs_lines, .int qs_pass, .int qs_spread, .int qs_lamp, .int qs_behind, .int qs_settingsTold, .ref qs_slideNames, .ref qs_pictures, .ref qs_heats, .ref qs_after, .ref qs_hearerNames, .ref qs_needs, .ref qs_likes, .ref qs_hates, .ref qs_near]))] (fun (r9 : Int32) (u9 : va_W) => (r9 = 0 ∧ u9 = [(qs, .inr (4, [.int qs_slides, .int qs_hearers, .int qs_nears, .int qs_lines, .int qs_pass, .int qs_spread, .int qs_lamp, .int qs_behind, .int qs_settingsTold, .ref qs_slideNames, .ref qs_pictures, .ref qs_heats, .ref qs_after, .ref qs_hearerNames, .ref qs_needs, .ref qs_likes, .ref qs_hates, .ref qs_near]))]) ∨ (r9 = 1 ∧ u9 = [(qs, .inr (4, [.int qs_slides, .int qs_hearers, .int qs_nears, .int qs_lines, .int qs_pass, .int qs_spread, .int qs_lamp, .int qs_behind, .int qs_settingsTold, .ref qs_slideNames, .ref qs_pictures, .ref qs_heats, .ref qs_after, .ref qs_hearerNames, .ref qs_needs, .ref qs_likes, .ref qs_hates, .ref qs_near]))])) := by
  refine Ci.ofQ (by decide) (Nat.le_of_ble_eq_true rfl) ?_
  intro p e s m below meth c ls A args Q hQ B hw hl
  have C : CallFix p m c cX5_isEnough 2 s args gw "LanternState$Scene" := B.1
  have hl : lv_has ls 2 [(0, .ref qs), (1, .int a1)] := hl
  refine lv_iload_n C.1 C.2.1 dX5_isEnough_0 rfl (lv_at hl 1 rfl) ?_
  refine x_calliS (As := [.int a1]) (rest := []) (wr := [(qs, .inr (4, [.int qs_slides, .int qs_hearers, .int qs_nears, .int qs_lines, .int qs_pass, .int qs_spread, .int qs_lamp, .int qs_behind, .int qs_settingsTold, .ref qs_slideNames, .ref qs_pictures, .ref qs_heats, .ref qs_after, .ref qs_hearerNames, .ref qs_needs, .ref qs_likes, .ref qs_hates, .ref qs_near]))]) C hw (s_J6_bitCount_0f7a4 a1) mwJ6_bitCount_0f7a4 kw721 [] [0] rfl rfl rfl rfl (by decide) rfl hl.1 rfl (Nat.le_of_ble_eq_true rfl) ⟨(Nat.le_of_ble_eq_true rfl), (Nat.le_of_ble_eq_true rfl)⟩ ⟨(Nat.le_of_ble_eq_true rfl), (Nat.le_of_ble_eq_true rfl)⟩ dX5_isEnough_1 (fun r1 u9 H locs hp9 hw => ?_)
  obtain ⟨x2, rfl, rfl, hf3⟩ := hp9
  have hw : Wd G s A [(qs, .inr (4, [.int qs_slides, .int qs_hearers, .int qs_nears, .int qs_lines, .int qs_pass, .int qs_spread, .int qs_lamp, .int qs_behind, .int qs_settingsTold, .ref qs_slideNames, .ref qs_pictures, .ref qs_heats, .ref qs_after, .ref qs_hearerNames, .ref qs_needs, .ref qs_likes, .ref qs_hates, .ref qs_near]))] H _ := hw
  refine lv_aload_n C.1 C.2.1 dX5_isEnough_4 rfl (lv_at hl 0 rfl) ?_
  refine x_get C hw iwX5 4 rfl 0 rfl 4 (by decide) kw160 rfl dX5_isEnough_5 ?_
  refine lv_icmp_lt (tgt := 15) C.1 C.2.1 dX5_isEnough_8 (by decide) (fun c4 => ?_) (fun c4 => ?_)
  · skip
    have c4 : r1.toInt < qs_pass.toInt := i_ltT (X := r1.toInt) (Y := qs_pass.toInt) rfl rfl c4
    have bc4_qs_pass := i_bd qs_pass
    refine lv_iconst (v := 0) C.1 C.2.1 dX5_isEnough_15 (by decide) ?_
    exact x_retzQ hQ B hw rfl (Or.inl ⟨rfl, rfl⟩) (Nat.le_of_ble_eq_true rfl) (Nat.le_of_ble_eq_true rfl) dX5_isEnough_16
  · skip
    have c4 : qs_pass.toInt ≤ r1.toInt := i_ltF (X := r1.toInt) (Y := qs_pass.toInt) rfl rfl c4
    have bc4_qs_pass := i_bd qs_pass
    refine lv_iconst (v := 1) C.1 C.2.1 dX5_isEnough_11 (by decide) ?_
    refine lv_goto (tgt := 16) C.1 C.2.1 dX5_isEnough_12 (by decide) ?_
    exact x_retzQ hQ B hw rfl (Or.inr ⟨rfl, rfl⟩) (Nat.le_of_ble_eq_true rfl) (Nat.le_of_ble_eq_true rfl) dX5_isEnough_16
theorem dX5_ownSighers_0 : decode cX5_ownSighers 0 = .ok (.iload_n 1, 1) := by decide +kernel
theorem dX5_ownSighers_1 : decode cX5_ownSighers 1 = .ok (.invokestatic 171, 3) := by decide +kernel
theorem dX5_ownSighers_4 : decode cX5_ownSighers 4 = .ok (.istore_n 3, 1) := by decide +kernel
theorem dX5_ownSighers_5 : decode cX5_ownSighers 5 = .ok (.iconst 0, 1) := by decide +kernel
theorem dX5_ownSighers_6 : decode cX5_ownSighers 6 = .ok (.istore 4, 2) := by decide +kernel
theorem dX5_ownSighers_8 : decode cX5_ownSighers 8 = .ok (.iconst 0, 1) := by decide +kernel
theorem dX5_ownSighers_9 : decode cX5_ownSighers 9 = .ok (.istore 5, 2) := by decide +kernel
theorem dX5_ownSighers_11 : decode cX5_ownSighers 11 = .ok (.iload 5, 2) := by decide +kernel
theorem dX5_ownSighers_13 : decode cX5_ownSighers 13 = .ok (.aload_n 0, 1) := by decide +kernel
theorem dX5_ownSighers_14 : decode cX5_ownSighers 14 = .ok (.getfield 50, 3) := by decide +kernel
theorem dX5_ownSighers_17 : decode cX5_ownSighers 17 = .ok (.if_icmp .ge 75, 3) := by decide +kernel
theorem dX5_ownSighers_20 : decode cX5_ownSighers 20 = .ok (.iload_n 2, 1) := by decide +kernel
theorem dX5_ownSighers_21 : decode cX5_ownSighers 21 = .ok (.iload 5, 2) := by decide +kernel
theorem dX5_ownSighers_23 : decode cX5_ownSighers 23 = .ok (.ishr, 1) := by decide +kernel
theorem dX5_ownSighers_24 : decode cX5_ownSighers 24 = .ok (.iconst 1, 1) := by decide +kernel
theorem dX5_ownSighers_25 : decode cX5_ownSighers 25 = .ok (.iand, 1) := by decide +kernel
theorem dX5_ownSighers_26 : decode cX5_ownSighers 26 = .ok (.ifCond .ne 7, 3) := by decide +kernel
theorem dX5_ownSighers_33 : decode cX5_ownSighers 33 = .ok (.iload_n 3, 1) := by decide +kernel
theorem dX5_ownSighers_29 : decode cX5_ownSighers 29 = .ok (.iload_n 1, 1) := by decide +kernel
theorem dX5_ownSighers_30 : decode cX5_ownSighers 30 = .ok (.goto 4, 3) := by decide +kernel
theorem dX5_ownSighers_34 : decode cX5_ownSighers 34 = .ok (.istore 6, 2) := by decide +kernel
theorem dX5_ownSighers_36 : decode cX5_ownSighers 36 = .ok (.iload 6, 2) := by decide +kernel
theorem dX5_ownSighers_38 : decode cX5_ownSighers 38 = .ok (.aload_n 0, 1) := by decide +kernel
theorem dX5_ownSighers_39 : decode cX5_ownSighers 39 = .ok (.getfield 38, 3) := by decide +kernel
theorem dX5_ownSighers_42 : decode cX5_ownSighers 42 = .ok (.iload 5, 2) := by decide +kernel
theorem dX5_ownSighers_44 : decode cX5_ownSighers 44 = .ok (.iaload, 1) := by decide +kernel
theorem dX5_ownSighers_45 : decode cX5_ownSighers 45 = .ok (.iand, 1) := by decide +kernel
theorem dX5_ownSighers_46 : decode cX5_ownSighers 46 = .ok (.invokestatic 174, 3) := by decide +kernel
theorem dX5_ownSighers_49 : decode cX5_ownSighers 49 = .ok (.iload 6, 2) := by decide +kernel
theorem dX5_ownSighers_51 : decode cX5_ownSighers 51 = .ok (.aload_n 0, 1) := by decide +kernel
theorem dX5_ownSighers_52 : decode cX5_ownSighers 52 = .ok (.getfield 41, 3) := by decide +kernel
theorem dX5_ownSighers_55 : decode cX5_ownSighers 55 = .ok (.iload 5, 2) := by decide +kernel
theorem dX5_ownSighers_57 : decode cX5_ownSighers 57 = .ok (.iaload, 1) := by decide +kernel
theorem dX5_ownSighers_58 : decode cX5_ownSighers 58 = .ok (.iand, 1) := by decide +kernel
theorem dX5_ownSighers_59 : decode cX5_ownSighers 59 = .ok (.invokestatic 174, 3) := by decide +kernel
theorem dX5_ownSighers_62 : decode cX5_ownSighers 62 = .ok (.isub, 1) := by decide +kernel
theorem dX5_ownSighers_63 : decode cX5_ownSighers 63 = .ok (.istore 7, 2) := by decide +kernel
theorem dX5_ownSighers_65 : decode cX5_ownSighers 65 = .ok (.iload 7, 2) := by decide +kernel
theorem dX5_ownSighers_67 : decode cX5_ownSighers 67 = .ok (.aload_n 0, 1) := by decide +kernel
theorem dX5_ownSighers_68 : decode cX5_ownSighers 68 = .ok (.getfield 35, 3) := by decide +kernel
theorem dX5_ownSighers_71 : decode cX5_ownSighers 71 = .ok (.iload 5, 2) := by decide +kernel
theorem dX5_ownSighers_73 : decode cX5_ownSighers 73 = .ok (.iaload, 1) := by decide +kernel
theorem dX5_ownSighers_74 : decode cX5_ownSighers 74 = .ok (.if_icmp .lt 12, 3) := by decide +kernel
theorem dX5_ownSighers_77 : decode cX5_ownSighers 77 = .ok (.iload 4, 2) := by decide +kernel
theorem dX5_ownSighers_79 : decode cX5_ownSighers 79 = .ok (.iconst 1, 1) := by decide +kernel
theorem dX5_ownSighers_80 : decode cX5_ownSighers 80 = .ok (.iload 5, 2) := by decide +kernel
theorem dX5_ownSighers_82 : decode cX5_ownSighers 82 = .ok (.ishl, 1) := by decide +kernel
theorem dX5_ownSighers_83 : decode cX5_ownSighers 83 = .ok (.ior, 1) := by decide +kernel
theorem dX5_ownSighers_84 : decode cX5_ownSighers 84 = .ok (.istore 4, 2) := by decide +kernel
theorem dX5_ownSighers_86 : decode cX5_ownSighers 86 = .ok (.iinc 5 1, 3) := by decide +kernel
theorem dX5_ownSighers_89 : decode cX5_ownSighers 89 = .ok (.goto (-78), 3) := by decide +kernel
theorem dX5_ownSighers_92 : decode cX5_ownSighers 92 = .ok (.iload 4, 2) := by decide +kernel
theorem dX5_ownSighers_94 : decode cX5_ownSighers 94 = .ok (.ireturn, 1) := by decide +kernel
set_option maxHeartbeats 4000000 in
set_option maxRecDepth 100000 in
theorem s_X5_ownSighers {l : Launch} {G : Gc} (qs : Nat) (a1 : Int32) (a2 : Int32) (qs_slides : Int32) (qs_hearers : Int32) (qs_nears : Int32) (qs_lines : Int32) (qs_pass : Int32) (qs_spread : Int32) (qs_lamp : Int32) (qs_behind : Int32) (qs_settingsTold : Int32) (qs_slideNames : Nat) (qs_pictures : Nat) (qs_heats : Nat) (qs_after : Nat) (qs_hearerNames : Nat) (qs_needs : Nat) (qs_likes : Nat) (qs_hates : Nat) (qs_near : Nat) (qs_needs_c : Nat → Int32) (qs_likes_c : Nat → Int32) (qs_hates_c : Nat → Int32) (hi_qs_hearers : 0 ≤ qs_hearers.toInt ∧ qs_hearers.toInt ≤ 8) : Ci l yX5_ownSighers cX5_ownSighers 8 (some .int) 1 0 0 G [.ref qs, .int a1, .int a2] [(qs, .inr (4, [.int qs_slides, .int qs_hearers, .int qs_nears, .int qs_lines, .int qs_pass, .int qs_spread, .int qs_lamp, .int qs_behind, .int qs_settingsTold, .ref qs_slideNames, .ref qs_pictures, .ref qs_heats, .ref qs_after, .ref qs_hearerNames, .ref qs_needs, .ref qs_likes, .ref qs_hates, .ref qs_near])), (qs_needs, eI G 8 qs_needs_c), (qs_likes, eI G 8 qs_likes_c), (qs_hates, eI G 8 qs_hates_c)] (fun (r9 : Int32) (u9 : va_W) => ∃ (r_x : Int32), r9 = r_x ∧ u9 = [(qs, .inr (4, [.int qs_slides, .int qs_hearers, .int qs_nears, .int qs_lines, .int qs_pass, .int qs_spread, .int qs_lamp, .int qs_behind, .int qs_settingsTold, .ref qs_slideNames, .ref qs_pictures, .ref qs_heats, .ref qs_after, .ref qs_hearerNames, .ref qs_needs, .ref qs_likes, .ref qs_hates, .ref qs_near])), (qs_needs, eI G 8 qs_needs_c), (qs_likes, eI G 8 qs_likes_c), (qs_hates, eI G 8 qs_hates_c)]) := by
  refine Ci.ofQ (by decide) (Nat.le_of_ble_eq_true rfl) ?_
  intro p e s m below meth c ls A args Q hQ B hw hl
  have C : CallFix p m c cX5_ownSighers 8 s args gw "LanternState$Scene" := B.1
  have hl : lv_has ls 8 [(0, .ref qs), (1, .int a1), (2, .int a2)] := hl
  refine lv_iload_n C.1 C.2.1 dX5_ownSighers_0 rfl (lv_at hl 1 rfl) ?_
  refine x_calliS (As := [.int a1]) (rest := []) (wr := [(qs, .inr (4, [.int qs_slides, .int qs_hearers, .int qs_nears, .int qs_lines, .int qs_pass, .int qs_spread, .int qs_lamp, .int qs_behind, .int qs_settingsTold, .ref qs_slideNames, .ref qs_pictures, .ref qs_heats, .ref qs_after, .ref qs_hearerNames, .ref qs_needs, .ref qs_likes, .ref qs_hates, .ref qs_near])), (qs_needs, eI G 8 qs_needs_c), (qs_likes, eI G 8 qs_likes_c), (qs_hates, eI G 8 qs_hates_c)]) C hw (s_X4_mirror a1) mwX4_mirror kw720 [] [0, 1, 2, 3] rfl rfl rfl rfl (by decide) rfl hl.1 rfl (Nat.le_of_ble_eq_true rfl) ⟨(Nat.le_of_ble_eq_true rfl), (Nat.le_of_ble_eq_true rfl)⟩ ⟨(Nat.le_of_ble_eq_true rfl), (Nat.le_of_ble_eq_true rfl)⟩ dX5_ownSighers_1 (fun r1 u9 H locs hp9 hw => ?_)
  obtain ⟨x2, rfl, rfl⟩ := hp9
  have hw : Wd G s A [(qs, .inr (4, [.int qs_slides, .int qs_hearers, .int qs_nears, .int qs_lines, .int qs_pass, .int qs_spread, .int qs_lamp, .int qs_behind, .int qs_settingsTold, .ref qs_slideNames, .ref qs_pictures, .ref qs_heats, .ref qs_after, .ref qs_hearerNames, .ref qs_needs, .ref qs_likes, .ref qs_hates, .ref qs_near])), (qs_needs, eI G 8 qs_needs_c), (qs_likes, eI G 8 qs_likes_c), (qs_hates, eI G 8 qs_hates_c)] H _ := hw
  refine lv_istore_n (lv' := [(3, .int r1), (0, .ref qs), (1, .int a1), (2, .int a2)]) C.1 C.2.1 dX5_ownSighers_4 rfl hl (by decide) rfl (fun ls hl => ?_)
  refine lv_iconst (v := 0) C.1 C.2.1 dX5_ownSighers_5 (by decide) ?_
  refine lv_istore (lv' := [(4, .int 0), (3, .int r1), (0, .ref qs), (1, .int a1), (2, .int a2)]) C.1 C.2.1 dX5_ownSighers_6 hl (by decide) rfl (fun ls hl => ?_)
  refine lv_iconst (v := 0) C.1 C.2.1 dX5_ownSighers_8 (by decide) ?_
  refine lv_istore (lv' := [(5, .int 0), (4, .int 0), (3, .int r1), (0, .ref qs), (1, .int a1), (2, .int a2)]) C.1 C.2.1 dX5_ownSighers_9 hl (by decide) rfl (fun ls hl => ?_)
  have loopJ216 : ∀ (n9 : Nat) (j214 : Int32) (j215 : Int32), (2147483647 - j214.toInt).toNat < n9 → (0 ≤ j214.toInt ∧ j214.toInt ≤ 8) → ∀ (H : Heap) (locs : List Loc) (ls : Array Slot), Wd G s A [(qs, .inr (4, [.int qs_slides, .int qs_hearers, .int qs_nears, .int qs_lines, .int qs_pass, .int qs_spread, .int qs_lamp, .int qs_behind, .int qs_settingsTold, .ref qs_slideNames, .ref qs_pictures, .ref qs_heats, .ref qs_after, .ref qs_hearerNames, .ref qs_needs, .ref qs_likes, .ref qs_hates, .ref qs_near])), (qs_needs, eI G 8 qs_needs_c), (qs_likes, eI G 8 qs_likes_c), (qs_hates, eI G 8 qs_hates_c)] H locs → lv_has ls 8 [(5, .int j214), (4, .int j215), (3, .int r1), (0, .ref qs), (1, .int a1), (2, .int a2)] → W p l e (rmD 1 0 0) s m args below meth c H locs 0 0 Q (F0 m 11 ls []) := by
    intro n9
    induction n9 with
    | zero => intro j214 j215 h9; exact absurd h9 (Nat.not_lt_zero _)
    | succ n9 ihJ216 =>
      intro j214 j215 h9J216 hJ216_0 H locs ls hw hl
      have hbj214 := i_bd j214
      refine lv_iload C.1 C.2.1 dX5_ownSighers_11 (lv_at hl 0 rfl) ?_
      refine lv_aload_n C.1 C.2.1 dX5_ownSighers_13 rfl (lv_at hl 3 rfl) ?_
      refine x_get C hw iwX5 4 rfl 0 rfl 1 (by decide) kw152 rfl dX5_ownSighers_14 ?_
      refine lv_icmp_ge (tgt := 92) C.1 C.2.1 dX5_ownSighers_17 (by decide) (fun c244 => ?_) (fun c244 => ?_)
      · skip
        have c244 : qs_hearers.toInt ≤ j214.toInt := i_leT (X := qs_hearers.toInt) (Y := j214.toInt) rfl rfl c244
        refine lv_iload C.1 C.2.1 dX5_ownSighers_92 (lv_at hl 1 rfl) ?_
        exact x_retiQ hQ B hw ⟨j215, rfl, rfl⟩ (Nat.le_of_ble_eq_true rfl) (Nat.le_of_ble_eq_true rfl) dX5_ownSighers_94
      · skip
        have c244 : j214.toInt < qs_hearers.toInt := i_leF (X := qs_hearers.toInt) (Y := j214.toInt) rfl rfl c244
        refine lv_iload_n C.1 C.2.1 dX5_ownSighers_20 rfl (lv_at hl 5 rfl) ?_
        refine lv_iload C.1 C.2.1 dX5_ownSighers_21 (lv_at hl 0 rfl) ?_
        refine lv_ishr C.1 C.2.1 dX5_ownSighers_23 (x_gen (fun v245 => ?_))
        refine lv_iconst (v := 1) C.1 C.2.1 dX5_ownSighers_24 (by decide) ?_
        refine lv_iand C.1 C.2.1 dX5_ownSighers_25 (x_genP (fun z : Int32 => 0 ≤ z.toInt ∧ z.toInt ≤ 1) (i_andR 1 rfl (by decide) rfl) (fun v246 hv246 => ?_))
        have J249 : ∀ (j248 : Int32), ∀ (H : Heap) (locs : List Loc) (ls : Array Slot), Wd G s A [(qs, .inr (4, [.int qs_slides, .int qs_hearers, .int qs_nears, .int qs_lines, .int qs_pass, .int qs_spread, .int qs_lamp, .int qs_behind, .int qs_settingsTold, .ref qs_slideNames, .ref qs_pictures, .ref qs_heats, .ref qs_after, .ref qs_hearerNames, .ref qs_needs, .ref qs_likes, .ref qs_hates, .ref qs_near])), (qs_needs, eI G 8 qs_needs_c), (qs_likes, eI G 8 qs_likes_c), (qs_hates, eI G 8 qs_hates_c)] H locs → lv_has ls 8 [(5, .int j214), (4, .int j215), (3, .int r1), (0, .ref qs), (1, .int a1), (2, .int a2)] → W p l e (rmD 1 0 0) s m args below meth c H locs 0 0 Q (F0 m 34 ls [.int j248]) := by
          intro j248  H locs ls hw hl
          refine lv_istore (lv' := [(6, .int j248), (5, .int j214), (4, .int j215), (3, .int r1), (0, .ref qs), (1, .int a1), (2, .int a2)]) C.1 C.2.1 dX5_ownSighers_34 hl (by decide) rfl (fun ls hl => ?_)
          refine lv_iload C.1 C.2.1 dX5_ownSighers_36 (lv_at hl 0 rfl) ?_
          refine lv_aload_n C.1 C.2.1 dX5_ownSighers_38 rfl (lv_at hl 4 rfl) ?_
          refine x_get C hw iwX5 4 rfl 0 rfl 15 (by decide) kw187 rfl dX5_ownSighers_39 ?_
          refine lv_iload C.1 C.2.1 dX5_ownSighers_42 (lv_at hl 1 rfl) ?_
          refine x_iald (v := (qs_likes_c j214.toNatClampNeg)) C hw 2 rfl (i_in (by omega) (by omega)) rfl dX5_ownSighers_44 (x_gen (fun v268 => ?_))
          refine lv_iand C.1 C.2.1 dX5_ownSighers_45 (x_gen (fun v269 => ?_))
          refine x_calliS (As := [.int v269]) (rest := []) (wr := [(qs, .inr (4, [.int qs_slides, .int qs_hearers, .int qs_nears, .int qs_lines, .int qs_pass, .int qs_spread, .int qs_lamp, .int qs_behind, .int qs_settingsTold, .ref qs_slideNames, .ref qs_pictures, .ref qs_heats, .ref qs_after, .ref qs_hearerNames, .ref qs_needs, .ref qs_likes, .ref qs_hates, .ref qs_near])), (qs_needs, eI G 8 qs_needs_c), (qs_likes, eI G 8 qs_likes_c), (qs_hates, eI G 8 qs_hates_c)]) C hw (s_J6_bitCount_0f7a4 v269) mwJ6_bitCount_0f7a4 kw721 [] [0, 1, 2, 3] rfl rfl rfl rfl (by decide) rfl hl.1 rfl (Nat.le_of_ble_eq_true rfl) ⟨(Nat.le_of_ble_eq_true rfl), (Nat.le_of_ble_eq_true rfl)⟩ ⟨(Nat.le_of_ble_eq_true rfl), (Nat.le_of_ble_eq_true rfl)⟩ dX5_ownSighers_46 (fun r270 u9 H locs hp9 hw => ?_)
          obtain ⟨x271, rfl, rfl, hf272⟩ := hp9
          have hw : Wd G s A [(qs, .inr (4, [.int qs_slides, .int qs_hearers, .int qs_nears, .int qs_lines, .int qs_pass, .int qs_spread, .int qs_lamp, .int qs_behind, .int qs_settingsTold, .ref qs_slideNames, .ref qs_pictures, .ref qs_heats, .ref qs_after, .ref qs_hearerNames, .ref qs_needs, .ref qs_likes, .ref qs_hates, .ref qs_near])), (qs_needs, eI G 8 qs_needs_c), (qs_likes, eI G 8 qs_likes_c), (qs_hates, eI G 8 qs_hates_c)] H _ := hw
          refine lv_iload C.1 C.2.1 dX5_ownSighers_49 (lv_at hl 0 rfl) ?_
          refine lv_aload_n C.1 C.2.1 dX5_ownSighers_51 rfl (lv_at hl 4 rfl) ?_
          refine x_get C hw iwX5 4 rfl 0 rfl 16 (by decide) kw189 rfl dX5_ownSighers_52 ?_
          refine lv_iload C.1 C.2.1 dX5_ownSighers_55 (lv_at hl 1 rfl) ?_
          refine x_iald (v := (qs_hates_c j214.toNatClampNeg)) C hw 3 rfl (i_in (by omega) (by omega)) rfl dX5_ownSighers_57 (x_gen (fun v273 => ?_))
          refine lv_iand C.1 C.2.1 dX5_ownSighers_58 (x_gen (fun v274 => ?_))
          refine x_calliS (As := [.int v274]) (rest := [.int r270]) (wr := [(qs, .inr (4, [.int qs_slides, .int qs_hearers, .int qs_nears, .int qs_lines, .int qs_pass, .int qs_spread, .int qs_lamp, .int qs_behind, .int qs_settingsTold, .ref qs_slideNames, .ref qs_pictures, .ref qs_heats, .ref qs_after, .ref qs_hearerNames, .ref qs_needs, .ref qs_likes, .ref qs_hates, .ref qs_near])), (qs_needs, eI G 8 qs_needs_c), (qs_likes, eI G 8 qs_likes_c), (qs_hates, eI G 8 qs_hates_c)]) C hw (s_J6_bitCount_0f7a4 v274) mwJ6_bitCount_0f7a4 kw721 [] [0, 1, 2, 3] rfl rfl rfl rfl (by decide) rfl hl.1 rfl (Nat.le_of_ble_eq_true rfl) ⟨(Nat.le_of_ble_eq_true rfl), (Nat.le_of_ble_eq_true rfl)⟩ ⟨(Nat.le_of_ble_eq_true rfl), (Nat.le_of_ble_eq_true rfl)⟩ dX5_ownSighers_59 (fun r275 u9 H locs hp9 hw => ?_)
          obtain ⟨x276, rfl, rfl, hf277⟩ := hp9
          have hw : Wd G s A [(qs, .inr (4, [.int qs_slides, .int qs_hearers, .int qs_nears, .int qs_lines, .int qs_pass, .int qs_spread, .int qs_lamp, .int qs_behind, .int qs_settingsTold, .ref qs_slideNames, .ref qs_pictures, .ref qs_heats, .ref qs_after, .ref qs_hearerNames, .ref qs_needs, .ref qs_likes, .ref qs_hates, .ref qs_near])), (qs_needs, eI G 8 qs_needs_c), (qs_likes, eI G 8 qs_likes_c), (qs_hates, eI G 8 qs_hates_c)] H _ := hw
          refine lv_isub C.1 C.2.1 dX5_ownSighers_62 (x_genP (fun z : Int32 => z.toInt = r270.toInt - r275.toInt) (i_sub (X := r270.toInt) (Y := r275.toInt) rfl rfl (by omega) (by omega)) (fun v278 hv278 => ?_))
          refine lv_istore (lv' := [(7, .int v278), (6, .int j248), (5, .int j214), (4, .int j215), (3, .int r1), (0, .ref qs), (1, .int a1), (2, .int a2)]) C.1 C.2.1 dX5_ownSighers_63 hl (by decide) rfl (fun ls hl => ?_)
          refine lv_iload C.1 C.2.1 dX5_ownSighers_65 (lv_at hl 0 rfl) ?_
          refine lv_aload_n C.1 C.2.1 dX5_ownSighers_67 rfl (lv_at hl 5 rfl) ?_
          refine x_get C hw iwX5 4 rfl 0 rfl 14 (by decide) kw185 rfl dX5_ownSighers_68 ?_
          refine lv_iload C.1 C.2.1 dX5_ownSighers_71 (lv_at hl 2 rfl) ?_
          refine x_iald (v := (qs_needs_c j214.toNatClampNeg)) C hw 1 rfl (i_in (by omega) (by omega)) rfl dX5_ownSighers_73 (x_gen (fun v279 => ?_))
          have J284 : ∀ (j283 : Int32), ∀ (H : Heap) (locs : List Loc) (ls : Array Slot), Wd G s A [(qs, .inr (4, [.int qs_slides, .int qs_hearers, .int qs_nears, .int qs_lines, .int qs_pass, .int qs_spread, .int qs_lamp, .int qs_behind, .int qs_settingsTold, .ref qs_slideNames, .ref qs_pictures, .ref qs_heats, .ref qs_after, .ref qs_hearerNames, .ref qs_needs, .ref qs_likes, .ref qs_hates, .ref qs_near])), (qs_needs, eI G 8 qs_needs_c), (qs_likes, eI G 8 qs_likes_c), (qs_hates, eI G 8 qs_hates_c)] H locs → lv_has ls 8 [(5, .int j214), (4, .int j283), (3, .int r1), (0, .ref qs), (1, .int a1), (2, .int a2)] → W p l e (rmD 1 0 0) s m args below meth c H locs 0 0 Q (F0 m 86 ls []) := by
            intro j283  H locs ls hw hl
            obtain ⟨v286, ev286⟩ : ∃ z : Int32, j214 + 1 = z := ⟨_, rfl⟩
            have hv286 : v286.toInt = j214.toInt + 1 := by rw [← ev286]; exact i_add rfl rfl (by omega) (by omega)
            refine lv_iinc (v := v286) (lv' := [(5, .int v286), (4, .int j283), (3, .int r1), (0, .ref qs), (1, .int a1), (2, .int a2)]) C.1 C.2.1 dX5_ownSighers_86 hl (k := 0) rfl ev286 (by decide) rfl (fun ls hl => ?_)
            refine lv_goto (tgt := 11) C.1 C.2.1 dX5_ownSighers_89 (by decide) ?_
            exact ihJ216 v286 j283 (by omega) (by omega) _ _ _ hw (lv_sub hl [0, 1, 2, 3, 4, 5] rfl)
          refine lv_icmp_lt (tgt := 86) C.1 C.2.1 dX5_ownSighers_74 (by decide) (fun c280 => ?_) (fun c280 => ?_)
          · skip
            have c280 : v278.toInt < v279.toInt := i_ltT (X := v278.toInt) (Y := v279.toInt) rfl rfl c280
            have bc280_v279 := i_bd v279
            exact J284 j215   _ _ _ hw (lv_sub hl [2, 3, 4, 5, 6, 7] rfl)
          · skip
            have c280 : v279.toInt ≤ v278.toInt := i_ltF (X := v278.toInt) (Y := v279.toInt) rfl rfl c280
            have bc280_v279 := i_bd v279
            refine lv_iload C.1 C.2.1 dX5_ownSighers_77 (lv_at hl 3 rfl) ?_
            refine lv_iconst (v := 1) C.1 C.2.1 dX5_ownSighers_79 (by decide) ?_
            refine lv_iload C.1 C.2.1 dX5_ownSighers_80 (lv_at hl 2 rfl) ?_
            refine lv_ishl C.1 C.2.1 dX5_ownSighers_82 (x_genP (fun z : Int32 => 1 ≤ z.toInt ∧ z.toInt ≤ 256) (i_shl1 (by omega) (by omega)) (fun v287 hv287 => ?_))
            refine lv_ior C.1 C.2.1 dX5_ownSighers_83 (x_gen (fun v288 => ?_))
            refine lv_istore (lv' := [(4, .int v288), (7, .int v278), (6, .int j248), (5, .int j214), (3, .int r1), (0, .ref qs), (1, .int a1), (2, .int a2)]) C.1 C.2.1 dX5_ownSighers_84 hl (by decide) rfl (fun ls hl => ?_)
            exact J284 v288   _ _ _ hw (lv_sub hl [3, 0, 4, 5, 6, 7] rfl)
        refine lv_if_ne (tgt := 33) C.1 C.2.1 dX5_ownSighers_26 (by decide) (fun c247 => ?_) (fun c247 => ?_)
        · skip
          have c247 : v246.toInt ≠ 0 := i_eqF (X := v246.toInt) (Y := 0) rfl rfl c247
          refine lv_iload_n C.1 C.2.1 dX5_ownSighers_33 rfl (lv_at hl 2 rfl) ?_
          exact J249 r1   _ _ _ hw (lv_sub hl [0, 1, 2, 3, 4, 5] rfl)
        · skip
          have c247 : v246.toInt = 0 := i_eqT (X := v246.toInt) (Y := 0) rfl rfl c247
          refine lv_iload_n C.1 C.2.1 dX5_ownSighers_29 rfl (lv_at hl 4 rfl) ?_
          refine lv_goto (tgt := 34) C.1 C.2.1 dX5_ownSighers_30 (by decide) ?_
          exact J249 a1   _ _ _ hw (lv_sub hl [0, 1, 2, 3, 4, 5] rfl)
  exact loopJ216 _ 0 0 (Nat.lt_succ_self _) (by decide) _ _ _ hw (lv_sub hl [0, 1, 2, 3, 4, 5] rfl)
theorem dX5_spreadFrom_0 : decode cX5_spreadFrom 0 = .ok (.iload_n 1, 1) := by decide +kernel
theorem dX5_spreadFrom_1 : decode cX5_spreadFrom 1 = .ok (.istore_n 2, 1) := by decide +kernel
theorem dX5_spreadFrom_2 : decode cX5_spreadFrom 2 = .ok (.iconst 0, 1) := by decide +kernel
theorem dX5_spreadFrom_3 : decode cX5_spreadFrom 3 = .ok (.istore_n 3, 1) := by decide +kernel
theorem dX5_spreadFrom_4 : decode cX5_spreadFrom 4 = .ok (.aload_n 0, 1) := by decide +kernel
theorem dX5_spreadFrom_5 : decode cX5_spreadFrom 5 = .ok (.getfield 59, 3) := by decide +kernel
theorem dX5_spreadFrom_8 : decode cX5_spreadFrom 8 = .ok (.ifCond .le 76, 3) := by decide +kernel
theorem dX5_spreadFrom_11 : decode cX5_spreadFrom 11 = .ok (.iload_n 3, 1) := by decide +kernel
theorem dX5_spreadFrom_12 : decode cX5_spreadFrom 12 = .ok (.bipush 8, 2) := by decide +kernel
theorem dX5_spreadFrom_14 : decode cX5_spreadFrom 14 = .ok (.if_icmp .ge 70, 3) := by decide +kernel
theorem dX5_spreadFrom_17 : decode cX5_spreadFrom 17 = .ok (.iload_n 2, 1) := by decide +kernel
theorem dX5_spreadFrom_18 : decode cX5_spreadFrom 18 = .ok (.istore 4, 2) := by decide +kernel
theorem dX5_spreadFrom_20 : decode cX5_spreadFrom 20 = .ok (.iconst 0, 1) := by decide +kernel
theorem dX5_spreadFrom_21 : decode cX5_spreadFrom 21 = .ok (.istore 5, 2) := by decide +kernel
theorem dX5_spreadFrom_23 : decode cX5_spreadFrom 23 = .ok (.iload 5, 2) := by decide +kernel
theorem dX5_spreadFrom_25 : decode cX5_spreadFrom 25 = .ok (.aload_n 0, 1) := by decide +kernel
theorem dX5_spreadFrom_26 : decode cX5_spreadFrom 26 = .ok (.getfield 50, 3) := by decide +kernel
theorem dX5_spreadFrom_29 : decode cX5_spreadFrom 29 = .ok (.if_icmp .ge 37, 3) := by decide +kernel
theorem dX5_spreadFrom_32 : decode cX5_spreadFrom 32 = .ok (.aload_n 0, 1) := by decide +kernel
theorem dX5_spreadFrom_33 : decode cX5_spreadFrom 33 = .ok (.getfield 44, 3) := by decide +kernel
theorem dX5_spreadFrom_36 : decode cX5_spreadFrom 36 = .ok (.iload 5, 2) := by decide +kernel
theorem dX5_spreadFrom_38 : decode cX5_spreadFrom 38 = .ok (.iaload, 1) := by decide +kernel
theorem dX5_spreadFrom_39 : decode cX5_spreadFrom 39 = .ok (.iload_n 2, 1) := by decide +kernel
theorem dX5_spreadFrom_40 : decode cX5_spreadFrom 40 = .ok (.iand, 1) := by decide +kernel
theorem dX5_spreadFrom_41 : decode cX5_spreadFrom 41 = .ok (.invokestatic 174, 3) := by decide +kernel
theorem dX5_spreadFrom_44 : decode cX5_spreadFrom 44 = .ok (.aload_n 0, 1) := by decide +kernel
theorem dX5_spreadFrom_45 : decode cX5_spreadFrom 45 = .ok (.getfield 59, 3) := by decide +kernel
theorem dX5_spreadFrom_48 : decode cX5_spreadFrom 48 = .ok (.if_icmp .lt 12, 3) := by decide +kernel
theorem dX5_spreadFrom_51 : decode cX5_spreadFrom 51 = .ok (.iload 4, 2) := by decide +kernel
theorem dX5_spreadFrom_53 : decode cX5_spreadFrom 53 = .ok (.iconst 1, 1) := by decide +kernel
theorem dX5_spreadFrom_54 : decode cX5_spreadFrom 54 = .ok (.iload 5, 2) := by decide +kernel
theorem dX5_spreadFrom_56 : decode cX5_spreadFrom 56 = .ok (.ishl, 1) := by decide +kernel
theorem dX5_spreadFrom_57 : decode cX5_spreadFrom 57 = .ok (.ior, 1) := by decide +kernel
theorem dX5_spreadFrom_58 : decode cX5_spreadFrom 58 = .ok (.istore 4, 2) := by decide +kernel
theorem dX5_spreadFrom_60 : decode cX5_spreadFrom 60 = .ok (.iinc 5 1, 3) := by decide +kernel
theorem dX5_spreadFrom_63 : decode cX5_spreadFrom 63 = .ok (.goto (-40), 3) := by decide +kernel
theorem dX5_spreadFrom_66 : decode cX5_spreadFrom 66 = .ok (.iload 4, 2) := by decide +kernel
theorem dX5_spreadFrom_68 : decode cX5_spreadFrom 68 = .ok (.iload_n 2, 1) := by decide +kernel
theorem dX5_spreadFrom_69 : decode cX5_spreadFrom 69 = .ok (.if_icmp .ne 6, 3) := by decide +kernel
theorem dX5_spreadFrom_75 : decode cX5_spreadFrom 75 = .ok (.iload 4, 2) := by decide +kernel
theorem dX5_spreadFrom_77 : decode cX5_spreadFrom 77 = .ok (.istore_n 2, 1) := by decide +kernel
theorem dX5_spreadFrom_78 : decode cX5_spreadFrom 78 = .ok (.iinc 3 1, 3) := by decide +kernel
theorem dX5_spreadFrom_81 : decode cX5_spreadFrom 81 = .ok (.goto (-77), 3) := by decide +kernel
theorem dX5_spreadFrom_72 : decode cX5_spreadFrom 72 = .ok (.goto 12, 3) := by decide +kernel
theorem dX5_spreadFrom_84 : decode cX5_spreadFrom 84 = .ok (.iload_n 2, 1) := by decide +kernel
theorem dX5_spreadFrom_85 : decode cX5_spreadFrom 85 = .ok (.ireturn, 1) := by decide +kernel
set_option maxHeartbeats 4000000 in
set_option maxRecDepth 100000 in
theorem s_X5_spreadFrom {l : Launch} {G : Gc} (qs : Nat) (a1 : Int32) (qs_slides : Int32) (qs_hearers : Int32) (qs_nears : Int32) (qs_lines : Int32) (qs_pass : Int32) (qs_spread : Int32) (qs_lamp : Int32) (qs_behind : Int32) (qs_settingsTold : Int32) (qs_slideNames : Nat) (qs_pictures : Nat) (qs_heats : Nat) (qs_after : Nat) (qs_hearerNames : Nat) (qs_needs : Nat) (qs_likes : Nat) (qs_hates : Nat) (qs_near : Nat) (qs_near_c : Nat → Int32) (hi_qs_hearers : 0 ≤ qs_hearers.toInt ∧ qs_hearers.toInt ≤ 8) : Ci l yX5_spreadFrom cX5_spreadFrom 6 (some .int) 1 0 0 G [.ref qs, .int a1] [(qs, .inr (4, [.int qs_slides, .int qs_hearers, .int qs_nears, .int qs_lines, .int qs_pass, .int qs_spread, .int qs_lamp, .int qs_behind, .int qs_settingsTold, .ref qs_slideNames, .ref qs_pictures, .ref qs_heats, .ref qs_after, .ref qs_hearerNames, .ref qs_needs, .ref qs_likes, .ref qs_hates, .ref qs_near])), (qs_near, eI G 8 qs_near_c)] (fun (r9 : Int32) (u9 : va_W) => ∃ (r_x : Int32), r9 = r_x ∧ u9 = [(qs, .inr (4, [.int qs_slides, .int qs_hearers, .int qs_nears, .int qs_lines, .int qs_pass, .int qs_spread, .int qs_lamp, .int qs_behind, .int qs_settingsTold, .ref qs_slideNames, .ref qs_pictures, .ref qs_heats, .ref qs_after, .ref qs_hearerNames, .ref qs_needs, .ref qs_likes, .ref qs_hates, .ref qs_near])), (qs_near, eI G 8 qs_near_c)]) := by
  refine Ci.ofQ (by decide) (Nat.le_of_ble_eq_true rfl) ?_
  intro p e s m below meth c ls A args Q hQ B hw hl
  have C : CallFix p m c cX5_spreadFrom 6 s args gw "LanternState$Scene" := B.1
  have hl : lv_has ls 6 [(0, .ref qs), (1, .int a1)] := hl
  refine lv_iload_n C.1 C.2.1 dX5_spreadFrom_0 rfl (lv_at hl 1 rfl) ?_
  refine lv_istore_n (lv' := [(2, .int a1), (0, .ref qs), (1, .int a1)]) C.1 C.2.1 dX5_spreadFrom_1 rfl hl (by decide) rfl (fun ls hl => ?_)
  refine lv_iconst (v := 0) C.1 C.2.1 dX5_spreadFrom_2 (by decide) ?_
  refine lv_istore_n (lv' := [(3, .int 0), (2, .int a1), (0, .ref qs), (1, .int a1)]) C.1 C.2.1 dX5_spreadFrom_3 rfl hl (by decide) rfl (fun ls hl => ?_)
  have loopJ1223 : ∀ (n9 : Nat) (j1221 : Int32) (j1222 : Int32), (2147483647 - j1221.toInt).toNat < n9 → (0 ≤ j1221.toInt ∧ j1221.toInt ≤ 8) → ∀ (H : Heap) (locs : List Loc) (ls : Array Slot), Wd G s A [(qs, .inr (4, [.int qs_slides, .int qs_hearers, .int qs_nears, .int qs_lines, .int qs_pass, .int qs_spread, .int qs_lamp, .int qs_behind, .int qs_settingsTold, .ref qs_slideNames, .ref qs_pictures, .ref qs_heats, .ref qs_after, .ref qs_hearerNames, .ref qs_needs, .ref qs_likes, .ref qs_hates, .ref qs_near])), (qs_near, eI G 8 qs_near_c)] H locs → lv_has ls 6 [(3, .int j1221), (2, .int j1222), (0, .ref qs)] → W p l e (rmD 1 0 0) s m args below meth c H locs 0 0 Q (F0 m 4 ls []) := by
    intro n9
    induction n9 with
    | zero => intro j1221 j1222 h9; exact absurd h9 (Nat.not_lt_zero _)
    | succ n9 ihJ1223 =>
      intro j1221 j1222 h9J1223 hJ1223_0 H locs ls hw hl
      have hbj1221 := i_bd j1221
      refine lv_aload_n C.1 C.2.1 dX5_spreadFrom_4 rfl (lv_at hl 2 rfl) ?_
      refine x_get C hw iwX5 4 rfl 0 rfl 5 (by decide) kw162 rfl dX5_spreadFrom_5 ?_
      refine lv_if_le (tgt := 84) C.1 C.2.1 dX5_spreadFrom_8 (by decide) (fun c1377 => ?_) (fun c1377 => ?_)
      · skip
        have c1377 : qs_spread.toInt ≤ 0 := i_leT (X := qs_spread.toInt) (Y := 0) rfl rfl c1377
        have bc1377_qs_spread := i_bd qs_spread
        refine lv_iload_n C.1 C.2.1 dX5_spreadFrom_84 rfl (lv_at hl 1 rfl) ?_
        exact x_retiQ hQ B hw ⟨j1222, rfl, rfl⟩ (Nat.le_of_ble_eq_true rfl) (Nat.le_of_ble_eq_true rfl) dX5_spreadFrom_85
      · skip
        have c1377 : 0 < qs_spread.toInt := i_leF (X := qs_spread.toInt) (Y := 0) rfl rfl c1377
        have bc1377_qs_spread := i_bd qs_spread
        refine lv_iload_n C.1 C.2.1 dX5_spreadFrom_11 rfl (lv_at hl 0 rfl) ?_
        refine lv_bipush (v := 8) C.1 C.2.1 dX5_spreadFrom_12 (by decide) ?_
        refine lv_icmp_ge (tgt := 84) C.1 C.2.1 dX5_spreadFrom_14 (by decide) (fun c1378 => ?_) (fun c1378 => ?_)
        · skip
          have c1378 : 8 ≤ j1221.toInt := i_leT (X := 8) (Y := j1221.toInt) rfl rfl c1378
          refine lv_iload_n C.1 C.2.1 dX5_spreadFrom_84 rfl (lv_at hl 1 rfl) ?_
          exact x_retiQ hQ B hw ⟨j1222, rfl, rfl⟩ (Nat.le_of_ble_eq_true rfl) (Nat.le_of_ble_eq_true rfl) dX5_spreadFrom_85
        · skip
          have c1378 : j1221.toInt < 8 := i_leF (X := 8) (Y := j1221.toInt) rfl rfl c1378
          refine lv_iload_n C.1 C.2.1 dX5_spreadFrom_17 rfl (lv_at hl 1 rfl) ?_
          refine lv_istore (lv' := [(4, .int j1222), (3, .int j1221), (2, .int j1222), (0, .ref qs)]) C.1 C.2.1 dX5_spreadFrom_18 hl (by decide) rfl (fun ls hl => ?_)
          refine lv_iconst (v := 0) C.1 C.2.1 dX5_spreadFrom_20 (by decide) ?_
          refine lv_istore (lv' := [(5, .int 0), (4, .int j1222), (3, .int j1221), (2, .int j1222), (0, .ref qs)]) C.1 C.2.1 dX5_spreadFrom_21 hl (by decide) rfl (fun ls hl => ?_)
          have loopJ1497 : ∀ (n9 : Nat) (j1495 : Int32) (j1496 : Int32), (2147483647 - j1495.toInt).toNat < n9 → (0 ≤ j1495.toInt ∧ j1495.toInt ≤ 8) → ∀ (H : Heap) (locs : List Loc) (ls : Array Slot), Wd G s A [(qs, .inr (4, [.int qs_slides, .int qs_hearers, .int qs_nears, .int qs_lines, .int qs_pass, .int qs_spread, .int qs_lamp, .int qs_behind, .int qs_settingsTold, .ref qs_slideNames, .ref qs_pictures, .ref qs_heats, .ref qs_after, .ref qs_hearerNames, .ref qs_needs, .ref qs_likes, .ref qs_hates, .ref qs_near])), (qs_near, eI G 8 qs_near_c)] H locs → lv_has ls 6 [(5, .int j1495), (4, .int j1496), (3, .int j1221), (2, .int j1222), (0, .ref qs)] → W p l e (rmD 1 0 0) s m args below meth c H locs 0 0 Q (F0 m 23 ls []) := by
            intro n9
            induction n9 with
            | zero => intro j1495 j1496 h9; exact absurd h9 (Nat.not_lt_zero _)
            | succ n9 ihJ1497 =>
              intro j1495 j1496 h9J1497 hJ1497_0 H locs ls hw hl
              have hbj1495 := i_bd j1495
              refine lv_iload C.1 C.2.1 dX5_spreadFrom_23 (lv_at hl 0 rfl) ?_
              refine lv_aload_n C.1 C.2.1 dX5_spreadFrom_25 rfl (lv_at hl 4 rfl) ?_
              refine x_get C hw iwX5 4 rfl 0 rfl 1 (by decide) kw152 rfl dX5_spreadFrom_26 ?_
              refine lv_icmp_ge (tgt := 66) C.1 C.2.1 dX5_spreadFrom_29 (by decide) (fun c1513 => ?_) (fun c1513 => ?_)
              · skip
                have c1513 : qs_hearers.toInt ≤ j1495.toInt := i_leT (X := qs_hearers.toInt) (Y := j1495.toInt) rfl rfl c1513
                refine lv_iload C.1 C.2.1 dX5_spreadFrom_66 (lv_at hl 1 rfl) ?_
                refine lv_iload_n C.1 C.2.1 dX5_spreadFrom_68 rfl (lv_at hl 3 rfl) ?_
                refine lv_icmp_ne (tgt := 75) C.1 C.2.1 dX5_spreadFrom_69 (by decide) (fun c1514 => ?_) (fun c1514 => ?_)
                · skip
                  have c1514 : j1496.toInt ≠ j1222.toInt := i_eqF (X := j1496.toInt) (Y := j1222.toInt) rfl rfl c1514
                  have bc1514_j1496 := i_bd j1496
                  have bc1514_j1222 := i_bd j1222
                  refine lv_iload C.1 C.2.1 dX5_spreadFrom_75 (lv_at hl 1 rfl) ?_
                  refine lv_istore_n (lv' := [(2, .int j1496), (5, .int j1495), (4, .int j1496), (3, .int j1221), (0, .ref qs)]) C.1 C.2.1 dX5_spreadFrom_77 rfl hl (by decide) rfl (fun ls hl => ?_)
                  obtain ⟨v1515, ev1515⟩ : ∃ z : Int32, j1221 + 1 = z := ⟨_, rfl⟩
                  have hv1515 : v1515.toInt = j1221.toInt + 1 := by rw [← ev1515]; exact i_add rfl rfl (by omega) (by omega)
                  refine lv_iinc (v := v1515) (lv' := [(3, .int v1515), (2, .int j1496), (5, .int j1495), (4, .int j1496), (0, .ref qs)]) C.1 C.2.1 dX5_spreadFrom_78 hl (k := 3) rfl ev1515 (by decide) rfl (fun ls hl => ?_)
                  refine lv_goto (tgt := 4) C.1 C.2.1 dX5_spreadFrom_81 (by decide) ?_
                  exact ihJ1223 v1515 j1496 (by omega) (by omega) _ _ _ hw (lv_sub hl [0, 1, 4] rfl)
                · skip
                  have c1514 : j1496.toInt = j1222.toInt := i_eqT (X := j1496.toInt) (Y := j1222.toInt) rfl rfl c1514
                  have bc1514_j1496 := i_bd j1496
                  have bc1514_j1222 := i_bd j1222
                  refine lv_goto (tgt := 84) C.1 C.2.1 dX5_spreadFrom_72 (by decide) ?_
                  refine lv_iload_n C.1 C.2.1 dX5_spreadFrom_84 rfl (lv_at hl 3 rfl) ?_
                  exact x_retiQ hQ B hw ⟨j1222, rfl, rfl⟩ (Nat.le_of_ble_eq_true rfl) (Nat.le_of_ble_eq_true rfl) dX5_spreadFrom_85
              · skip
                have c1513 : j1495.toInt < qs_hearers.toInt := i_leF (X := qs_hearers.toInt) (Y := j1495.toInt) rfl rfl c1513
                refine lv_aload_n C.1 C.2.1 dX5_spreadFrom_32 rfl (lv_at hl 4 rfl) ?_
                refine x_get C hw iwX5 4 rfl 0 rfl 17 (by decide) kw191 rfl dX5_spreadFrom_33 ?_
                refine lv_iload C.1 C.2.1 dX5_spreadFrom_36 (lv_at hl 0 rfl) ?_
                refine x_iald (v := (qs_near_c j1495.toNatClampNeg)) C hw 1 rfl (i_in (by omega) (by omega)) rfl dX5_spreadFrom_38 (x_gen (fun v1516 => ?_))
                refine lv_iload_n C.1 C.2.1 dX5_spreadFrom_39 rfl (lv_at hl 3 rfl) ?_
                refine lv_iand C.1 C.2.1 dX5_spreadFrom_40 (x_gen (fun v1517 => ?_))
                refine x_calliS (As := [.int v1517]) (rest := []) (wr := [(qs, .inr (4, [.int qs_slides, .int qs_hearers, .int qs_nears, .int qs_lines, .int qs_pass, .int qs_spread, .int qs_lamp, .int qs_behind, .int qs_settingsTold, .ref qs_slideNames, .ref qs_pictures, .ref qs_heats, .ref qs_after, .ref qs_hearerNames, .ref qs_needs, .ref qs_likes, .ref qs_hates, .ref qs_near])), (qs_near, eI G 8 qs_near_c)]) C hw (s_J6_bitCount_0f7a4 v1517) mwJ6_bitCount_0f7a4 kw721 [] [0, 1] rfl rfl rfl rfl (by decide) rfl hl.1 rfl (Nat.le_of_ble_eq_true rfl) ⟨(Nat.le_of_ble_eq_true rfl), (Nat.le_of_ble_eq_true rfl)⟩ ⟨(Nat.le_of_ble_eq_true rfl), (Nat.le_of_ble_eq_true rfl)⟩ dX5_spreadFrom_41 (fun r1518 u9 H locs hp9 hw => ?_)
                obtain ⟨x1519, rfl, rfl, hf1520⟩ := hp9
                have hw : Wd G s A [(qs, .inr (4, [.int qs_slides, .int qs_hearers, .int qs_nears, .int qs_lines, .int qs_pass, .int qs_spread, .int qs_lamp, .int qs_behind, .int qs_settingsTold, .ref qs_slideNames, .ref qs_pictures, .ref qs_heats, .ref qs_after, .ref qs_hearerNames, .ref qs_needs, .ref qs_likes, .ref qs_hates, .ref qs_near])), (qs_near, eI G 8 qs_near_c)] H _ := hw
                refine lv_aload_n C.1 C.2.1 dX5_spreadFrom_44 rfl (lv_at hl 4 rfl) ?_
                refine x_get C hw iwX5 4 rfl 0 rfl 5 (by decide) kw162 rfl dX5_spreadFrom_45 ?_
                have J1525 : ∀ (j1524 : Int32), ∀ (H : Heap) (locs : List Loc) (ls : Array Slot), Wd G s A [(qs, .inr (4, [.int qs_slides, .int qs_hearers, .int qs_nears, .int qs_lines, .int qs_pass, .int qs_spread, .int qs_lamp, .int qs_behind, .int qs_settingsTold, .ref qs_slideNames, .ref qs_pictures, .ref qs_heats, .ref qs_after, .ref qs_hearerNames, .ref qs_needs, .ref qs_likes, .ref qs_hates, .ref qs_near])), (qs_near, eI G 8 qs_near_c)] H locs → lv_has ls 6 [(5, .int j1495), (4, .int j1524), (3, .int j1221), (2, .int j1222), (0, .ref qs)] → W p l e (rmD 1 0 0) s m args below meth c H locs 0 0 Q (F0 m 60 ls []) := by
                  intro j1524  H locs ls hw hl
                  obtain ⟨v1527, ev1527⟩ : ∃ z : Int32, j1495 + 1 = z := ⟨_, rfl⟩
                  have hv1527 : v1527.toInt = j1495.toInt + 1 := by rw [← ev1527]; exact i_add rfl rfl (by omega) (by omega)
                  refine lv_iinc (v := v1527) (lv' := [(5, .int v1527), (4, .int j1524), (3, .int j1221), (2, .int j1222), (0, .ref qs)]) C.1 C.2.1 dX5_spreadFrom_60 hl (k := 0) rfl ev1527 (by decide) rfl (fun ls hl => ?_)
                  refine lv_goto (tgt := 23) C.1 C.2.1 dX5_spreadFrom_63 (by decide) ?_
                  exact ihJ1497 v1527 j1524 (by omega) (by omega) _ _ _ hw (lv_sub hl [0, 1, 2, 3, 4] rfl)
                refine lv_icmp_lt (tgt := 60) C.1 C.2.1 dX5_spreadFrom_48 (by decide) (fun c1521 => ?_) (fun c1521 => ?_)
                · skip
                  have c1521 : r1518.toInt < qs_spread.toInt := i_ltT (X := r1518.toInt) (Y := qs_spread.toInt) rfl rfl c1521
                  have bc1521_qs_spread := i_bd qs_spread
                  exact J1525 j1496   _ _ _ hw (lv_sub hl [0, 1, 2, 3, 4] rfl)
                · skip
                  have c1521 : qs_spread.toInt ≤ r1518.toInt := i_ltF (X := r1518.toInt) (Y := qs_spread.toInt) rfl rfl c1521
                  have bc1521_qs_spread := i_bd qs_spread
                  refine lv_iload C.1 C.2.1 dX5_spreadFrom_51 (lv_at hl 1 rfl) ?_
                  refine lv_iconst (v := 1) C.1 C.2.1 dX5_spreadFrom_53 (by decide) ?_
                  refine lv_iload C.1 C.2.1 dX5_spreadFrom_54 (lv_at hl 0 rfl) ?_
                  refine lv_ishl C.1 C.2.1 dX5_spreadFrom_56 (x_genP (fun z : Int32 => 1 ≤ z.toInt ∧ z.toInt ≤ 256) (i_shl1 (by omega) (by omega)) (fun v1528 hv1528 => ?_))
                  refine lv_ior C.1 C.2.1 dX5_spreadFrom_57 (x_gen (fun v1529 => ?_))
                  refine lv_istore (lv' := [(4, .int v1529), (5, .int j1495), (3, .int j1221), (2, .int j1222), (0, .ref qs)]) C.1 C.2.1 dX5_spreadFrom_58 hl (by decide) rfl (fun ls hl => ?_)
                  exact J1525 v1529   _ _ _ hw (lv_sub hl [1, 0, 2, 3, 4] rfl)
          exact loopJ1497 _ 0 j1222 (Nat.lt_succ_self _) (by decide) _ _ _ hw (lv_sub hl [0, 1, 2, 3, 4] rfl)
  exact loopJ1223 _ 0 a1 (Nat.lt_succ_self _) (by decide) _ _ _ hw (lv_sub hl [0, 1, 2] rfl)
theorem dX5_sighers_0 : decode cX5_sighers 0 = .ok (.aload_n 0, 1) := by decide +kernel
theorem dX5_sighers_1 : decode cX5_sighers 1 = .ok (.aload_n 0, 1) := by decide +kernel
theorem dX5_sighers_2 : decode cX5_sighers 2 = .ok (.iload_n 1, 1) := by decide +kernel
theorem dX5_sighers_3 : decode cX5_sighers 3 = .ok (.iload_n 2, 1) := by decide +kernel
theorem dX5_sighers_4 : decode cX5_sighers 4 = .ok (.invokevirtual 164, 3) := by decide +kernel
theorem mwX5_ownSighers : MwV yX5_ownSighers cX5_ownSighers 8 (some .int) 2 := ⟨⟨kw719, kw7, by decide +kernel⟩, kw717, kw718⟩
theorem dX5_sighers_7 : decode cX5_sighers 7 = .ok (.invokevirtual 167, 3) := by decide +kernel
theorem mwX5_spreadFrom : MwV yX5_spreadFrom cX5_spreadFrom 6 (some .int) 1 := ⟨⟨kw730, kw7, by decide +kernel⟩, kw728, kw729⟩
theorem dX5_sighers_10 : decode cX5_sighers 10 = .ok (.ireturn, 1) := by decide +kernel
set_option maxHeartbeats 4000000 in
set_option maxRecDepth 100000 in
theorem s_X5_sighers {l : Launch} {G : Gc} (qs : Nat) (a1 : Int32) (a2 : Int32) (qs_slides : Int32) (qs_hearers : Int32) (qs_nears : Int32) (qs_lines : Int32) (qs_pass : Int32) (qs_spread : Int32) (qs_lamp : Int32) (qs_behind : Int32) (qs_settingsTold : Int32) (qs_slideNames : Nat) (qs_pictures : Nat) (qs_heats : Nat) (qs_after : Nat) (qs_hearerNames : Nat) (qs_needs : Nat) (qs_likes : Nat) (qs_hates : Nat) (qs_near : Nat) (qs_needs_c : Nat → Int32) (qs_likes_c : Nat → Int32) (qs_hates_c : Nat → Int32) (qs_near_c : Nat → Int32) (hi_qs_hearers : 0 ≤ qs_hearers.toInt ∧ qs_hearers.toInt ≤ 8) : Ci l yX5_sighers cX5_sighers 3 (some .int) 2 0 0 G [.ref qs, .int a1, .int a2] [(qs, .inr (4, [.int qs_slides, .int qs_hearers, .int qs_nears, .int qs_lines, .int qs_pass, .int qs_spread, .int qs_lamp, .int qs_behind, .int qs_settingsTold, .ref qs_slideNames, .ref qs_pictures, .ref qs_heats, .ref qs_after, .ref qs_hearerNames, .ref qs_needs, .ref qs_likes, .ref qs_hates, .ref qs_near])), (qs_needs, eI G 8 qs_needs_c), (qs_likes, eI G 8 qs_likes_c), (qs_hates, eI G 8 qs_hates_c), (qs_near, eI G 8 qs_near_c)] (fun (r9 : Int32) (u9 : va_W) => ∃ (r_x : Int32), r9 = r_x ∧ u9 = [(qs, .inr (4, [.int qs_slides, .int qs_hearers, .int qs_nears, .int qs_lines, .int qs_pass, .int qs_spread, .int qs_lamp, .int qs_behind, .int qs_settingsTold, .ref qs_slideNames, .ref qs_pictures, .ref qs_heats, .ref qs_after, .ref qs_hearerNames, .ref qs_needs, .ref qs_likes, .ref qs_hates, .ref qs_near])), (qs_needs, eI G 8 qs_needs_c), (qs_likes, eI G 8 qs_likes_c), (qs_hates, eI G 8 qs_hates_c), (qs_near, eI G 8 qs_near_c)]) := by
  refine Ci.ofQ (by decide) (Nat.le_of_ble_eq_true rfl) ?_
  intro p e s m below meth c ls A args Q hQ B hw hl
  have C : CallFix p m c cX5_sighers 3 s args gw "LanternState$Scene" := B.1
  have hl : lv_has ls 3 [(0, .ref qs), (1, .int a1), (2, .int a2)] := hl
  refine lv_aload_n C.1 C.2.1 dX5_sighers_0 rfl (lv_at hl 0 rfl) ?_
  refine lv_aload_n C.1 C.2.1 dX5_sighers_1 rfl (lv_at hl 0 rfl) ?_
  refine lv_iload_n C.1 C.2.1 dX5_sighers_2 rfl (lv_at hl 1 rfl) ?_
  refine lv_iload_n C.1 C.2.1 dX5_sighers_3 rfl (lv_at hl 2 rfl) ?_
  refine x_calliV (As := [.int a1, .int a2]) (rest := [.ref qs]) (wr := [(qs_near, eI G 8 qs_near_c)]) C hw (s_X5_ownSighers qs a1 a2 qs_slides qs_hearers qs_nears qs_lines qs_pass qs_spread qs_lamp qs_behind qs_settingsTold qs_slideNames qs_pictures qs_heats qs_after qs_hearerNames qs_needs qs_likes qs_hates qs_near qs_needs_c qs_likes_c qs_hates_c (by omega)) mwX5_ownSighers kw716 [0, 1, 2, 3] [4] rfl rfl rfl rfl (by decide) 0 rfl rfl rfl rfl hl.1 rfl (Nat.le_of_ble_eq_true rfl) ⟨(Nat.le_of_ble_eq_true rfl), (Nat.le_of_ble_eq_true rfl)⟩ ⟨(Nat.le_of_ble_eq_true rfl), (Nat.le_of_ble_eq_true rfl)⟩ dX5_sighers_4 (fun r1 u9 H locs hp9 hw => ?_)
  obtain ⟨x2, rfl, rfl⟩ := hp9
  have hw : Wd G s A [(qs_near, eI G 8 qs_near_c), (qs, .inr (4, [.int qs_slides, .int qs_hearers, .int qs_nears, .int qs_lines, .int qs_pass, .int qs_spread, .int qs_lamp, .int qs_behind, .int qs_settingsTold, .ref qs_slideNames, .ref qs_pictures, .ref qs_heats, .ref qs_after, .ref qs_hearerNames, .ref qs_needs, .ref qs_likes, .ref qs_hates, .ref qs_near])), (qs_needs, eI G 8 qs_needs_c), (qs_likes, eI G 8 qs_likes_c), (qs_hates, eI G 8 qs_hates_c)] H _ := hw
  refine x_calliV (As := [.int r1]) (rest := []) (wr := [(qs_needs, eI G 8 qs_needs_c), (qs_likes, eI G 8 qs_likes_c), (qs_hates, eI G 8 qs_hates_c)]) C hw (s_X5_spreadFrom qs r1 qs_slides qs_hearers qs_nears qs_lines qs_pass qs_spread qs_lamp qs_behind qs_settingsTold qs_slideNames qs_pictures qs_heats qs_after qs_hearerNames qs_needs qs_likes qs_hates qs_near qs_near_c (by omega)) mwX5_spreadFrom kw727 [1, 0] [2, 3, 4] rfl rfl rfl rfl (by decide) 0 rfl rfl rfl rfl hl.1 rfl (Nat.le_of_ble_eq_true rfl) ⟨(Nat.le_of_ble_eq_true rfl), (Nat.le_of_ble_eq_true rfl)⟩ ⟨(Nat.le_of_ble_eq_true rfl), (Nat.le_of_ble_eq_true rfl)⟩ dX5_sighers_7 (fun r3 u9 H locs hp9 hw => ?_)
  obtain ⟨x4, rfl, rfl⟩ := hp9
  have hw : Wd G s A [(qs_needs, eI G 8 qs_needs_c), (qs_likes, eI G 8 qs_likes_c), (qs_hates, eI G 8 qs_hates_c), (qs, .inr (4, [.int qs_slides, .int qs_hearers, .int qs_nears, .int qs_lines, .int qs_pass, .int qs_spread, .int qs_lamp, .int qs_behind, .int qs_settingsTold, .ref qs_slideNames, .ref qs_pictures, .ref qs_heats, .ref qs_after, .ref qs_hearerNames, .ref qs_needs, .ref qs_likes, .ref qs_hates, .ref qs_near])), (qs_near, eI G 8 qs_near_c)] H _ := hw
  have hw := hw.sub (w' := [(qs, .inr (4, [.int qs_slides, .int qs_hearers, .int qs_nears, .int qs_lines, .int qs_pass, .int qs_spread, .int qs_lamp, .int qs_behind, .int qs_settingsTold, .ref qs_slideNames, .ref qs_pictures, .ref qs_heats, .ref qs_after, .ref qs_hearerNames, .ref qs_needs, .ref qs_likes, .ref qs_hates, .ref qs_near])), (qs_needs, eI G 8 qs_needs_c), (qs_likes, eI G 8 qs_likes_c), (qs_hates, eI G 8 qs_hates_c), (qs_near, eI G 8 qs_near_c)]) [3, 0, 1, 2, 4] rfl rfl
  exact x_retiQ hQ B hw ⟨r3, rfl, rfl⟩ (Nat.le_of_ble_eq_true rfl) (Nat.le_of_ble_eq_true rfl) dX5_sighers_10
