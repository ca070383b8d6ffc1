-- needs: 08 6 7 12 14 16 17 18 20 09
set_option maxHeartbeats 4000000 in
set_option maxRecDepth 100000 in
theorem s_X11_speltB {l : Launch} {G : Gc} (a1 : Int32) (a2 : Int32) (a3 : Int32) (a4 : Int32) (a5 : Int32) (a6 : Int32) (a7 : Int32) (hi_a1 : 97 ≤ a1.toInt ∧ a1.toInt ≤ 122) (hi_a2 : 97 ≤ a2.toInt ∧ a2.toInt ≤ 122) (hi_a3 : 0 ≤ a3.toInt ∧ a3.toInt ≤ 122) (hi_a4 : 0 ≤ a4.toInt ∧ a4.toInt ≤ 122) (hi_a5 : 0 ≤ a5.toInt ∧ a5.toInt ≤ 122) (hi_a6 : 0 ≤ a6.toInt ∧ a6.toInt ≤ 122) (hi_a7 : 0 ≤ a7.toInt ∧ a7.toInt ≤ 122) (hr_0 : a3.toInt = 0 ∨ 97 ≤ a3.toInt) (hr_1 : a4.toInt = 0 ∨ 97 ≤ a4.toInt) (hr_2 : a5.toInt = 0 ∨ 97 ≤ a5.toInt) (hr_3 : a6.toInt = 0 ∨ 97 ≤ a6.toInt) (hr_4 : a7.toInt = 0 ∨ 97 ≤ a7.toInt) : Cl l yX11_spelt cX11_spelt 9 0 0 0 G [.int a1, .int a2, .int a3, .int a4, .int a5, .int a6, .int a7] [] (fun (r9 : Int64) (u9 : va_W) => ∃ (r_x : Int64), r9 = r_x ∧ u9 = [] ∧ (0 ≤ r_x.toInt ∧ r_x.toInt ≤ 10460353202)) := by
  refine Cl.ofQ (by decide) (Nat.le_of_ble_eq_true rfl) ?_
  intro p e s m below meth c ls A args Q hQ B hw hl
  have C : CallFix p m c cX11_spelt 9 s args gw "LanternStateModel" := B.1
  have hl : lv_has ls 9 [(0, .int a1), (1, .int a2), (2, .int a3), (3, .int a4), (4, .int a5), (5, .int a6), (6, .int a7)] := hl
  refine lv_ldc2 (v := 27) C.1 C.2.1 C.2.2.2.1 (C.2.2.2.2 _ kw1353) dX11_spelt_0 ?_
  refine lv_iload_n C.1 C.2.1 dX11_spelt_3 rfl (lv_at hl 0 rfl) ?_
  refine lv_i2l (v := a1.toInt64) C.1 C.2.1 dX11_spelt_4 rfl (x_genlP (fun z : Int64 => z.toInt = a1.toInt) (l_i2l _) (fun v1 hv1 => ?_))
  refine lv_ldc2 (v := 96) C.1 C.2.1 C.2.2.2.1 (C.2.2.2.2 _ kw1354) dX11_spelt_5 ?_
  refine lv_lsub C.1 C.2.1 dX11_spelt_8 (x_genlP (fun z : Int64 => z.toInt = v1.toInt - 96) (l_sub (X := v1.toInt) (Y := 96) rfl rfl (by omega) (by omega)) (fun v2 hv2 => ?_))
  refine lv_lmul C.1 C.2.1 dX11_spelt_9 (x_genlP (fun z : Int64 => z.toInt = 27 * v2.toInt) (l_mul (X := 27) (Y := v2.toInt) rfl rfl (by omega) (by omega)) (fun v3 hv3 => ?_))
  refine lv_iload_n C.1 C.2.1 dX11_spelt_10 rfl (lv_at hl 1 rfl) ?_
  refine lv_i2l (v := a2.toInt64) C.1 C.2.1 dX11_spelt_11 rfl (x_genlP (fun z : Int64 => z.toInt = a2.toInt) (l_i2l _) (fun v4 hv4 => ?_))
  refine lv_ladd C.1 C.2.1 dX11_spelt_12 (x_genlP (fun z : Int64 => z.toInt = v3.toInt + v4.toInt) (l_add (X := v3.toInt) (Y := v4.toInt) rfl rfl (by omega) (by omega)) (fun v5 hv5 => ?_))
  refine lv_ldc2 (v := 96) C.1 C.2.1 C.2.2.2.1 (C.2.2.2.2 _ kw1354) dX11_spelt_13 ?_
  refine lv_lsub C.1 C.2.1 dX11_spelt_16 (x_genlP (fun z : Int64 => z.toInt = v5.toInt - 96) (l_sub (X := v5.toInt) (Y := 96) rfl rfl (by omega) (by omega)) (fun v6 hv6 => ?_))
  refine lv_lstore (lv' := [(7, .long v6), (0, .int a1), (1, .int a2), (2, .int a3), (3, .int a4), (4, .int a5), (5, .int a6), (6, .int a7)]) C.1 C.2.1 dX11_spelt_17 hl (by decide) rfl (fun ls hl => ?_)
  refine lv_iload_n C.1 C.2.1 dX11_spelt_19 rfl (lv_at hl 3 rfl) ?_
  have J13 : ∀ (j12 : Int64), (0 ≤ j12.toInt ∧ j12.toInt ≤ 19682) → ∀ (H : Heap) (locs : List Loc) (ls : Array Slot), Wd G s A [] H locs → lv_has ls 9 [(7, .long j12), (3, .int a4), (4, .int a5), (5, .int a6), (6, .int a7)] → W p l e (rmD 0 0 0) s m args below meth c H locs 0 0 Q (F0 m 38 ls []) := by
    intro j12 hJ13_0 H locs ls hw hl
    refine lv_iload_n C.1 C.2.1 dX11_spelt_38 rfl (lv_at hl 1 rfl) ?_
    have J48 : ∀ (j47 : Int64), (0 ≤ j47.toInt ∧ j47.toInt ≤ 531440) → ∀ (H : Heap) (locs : List Loc) (ls : Array Slot), Wd G s A [] H locs → lv_has ls 9 [(7, .long j47), (4, .int a5), (5, .int a6), (6, .int a7)] → W p l e (rmD 0 0 0) s m args below meth c H locs 0 0 Q (F0 m 57 ls []) := by
      intro j47 hJ48_0 H locs ls hw hl
      refine lv_iload C.1 C.2.1 dX11_spelt_57 (lv_at hl 1 rfl) ?_
      have J76 : ∀ (j75 : Int64), (0 ≤ j75.toInt ∧ j75.toInt ≤ 14348906) → ∀ (H : Heap) (locs : List Loc) (ls : Array Slot), Wd G s A [] H locs → lv_has ls 9 [(7, .long j75), (5, .int a6), (6, .int a7)] → W p l e (rmD 0 0 0) s m args below meth c H locs 0 0 Q (F0 m 78 ls []) := by
        intro j75 hJ76_0 H locs ls hw hl
        refine lv_iload C.1 C.2.1 dX11_spelt_78 (lv_at hl 1 rfl) ?_
        have J97 : ∀ (j96 : Int64), (0 ≤ j96.toInt ∧ j96.toInt ≤ 387420488) → ∀ (H : Heap) (locs : List Loc) (ls : Array Slot), Wd G s A [] H locs → lv_has ls 9 [(7, .long j96), (6, .int a7)] → W p l e (rmD 0 0 0) s m args below meth c H locs 0 0 Q (F0 m 99 ls []) := by
          intro j96 hJ97_0 H locs ls hw hl
          refine lv_iload C.1 C.2.1 dX11_spelt_99 (lv_at hl 1 rfl) ?_
          have J111 : ∀ (j110 : Int64), (0 ≤ j110.toInt ∧ j110.toInt ≤ 10460353202) → ∀ (H : Heap) (locs : List Loc) (ls : Array Slot), Wd G s A [] H locs → lv_has ls 9 [(7, .long j110)] → W p l e (rmD 0 0 0) s m args below meth c H locs 0 0 Q (F0 m 120 ls []) := by
            intro j110 hJ111_0 H locs ls hw hl
            refine lv_lload C.1 C.2.1 dX11_spelt_120 (lv_at hl 0 rfl) ?_
            exact x_retlQ hQ B hw ⟨j110, rfl, rfl, (by omega)⟩ (Nat.le_of_ble_eq_true rfl) (Nat.le_of_ble_eq_true rfl) dX11_spelt_122
          refine lv_if_le (tgt := 120) C.1 C.2.1 dX11_spelt_101 (by decide) (fun c105 => ?_) (fun c105 => ?_)
          · skip
            have c105 : a7.toInt ≤ 0 := i_leT (X := a7.toInt) (Y := 0) rfl rfl c105
            exact J111 j96  (by omega) _ _ _ hw (lv_sub hl [0] rfl)
          · skip
            have c105 : 0 < a7.toInt := i_leF (X := a7.toInt) (Y := 0) rfl rfl c105
            refine lv_ldc2 (v := 27) C.1 C.2.1 C.2.2.2.1 (C.2.2.2.2 _ kw1353) dX11_spelt_104 ?_
            refine lv_lload C.1 C.2.1 dX11_spelt_107 (lv_at hl 0 rfl) ?_
            refine lv_lmul C.1 C.2.1 dX11_spelt_109 (x_genlP (fun z : Int64 => z.toInt = 27 * j96.toInt) (l_mul (X := 27) (Y := j96.toInt) rfl rfl (by omega) (by omega)) (fun v112 hv112 => ?_))
            refine lv_iload C.1 C.2.1 dX11_spelt_110 (lv_at hl 1 rfl) ?_
            refine lv_i2l (v := a7.toInt64) C.1 C.2.1 dX11_spelt_112 rfl (x_genlP (fun z : Int64 => z.toInt = a7.toInt) (l_i2l _) (fun v113 hv113 => ?_))
            refine lv_ladd C.1 C.2.1 dX11_spelt_113 (x_genlP (fun z : Int64 => z.toInt = v112.toInt + v113.toInt) (l_add (X := v112.toInt) (Y := v113.toInt) rfl rfl (by omega) (by omega)) (fun v114 hv114 => ?_))
            refine lv_ldc2 (v := 96) C.1 C.2.1 C.2.2.2.1 (C.2.2.2.2 _ kw1354) dX11_spelt_114 ?_
            refine lv_lsub C.1 C.2.1 dX11_spelt_117 (x_genlP (fun z : Int64 => z.toInt = v114.toInt - 96) (l_sub (X := v114.toInt) (Y := 96) rfl rfl (by omega) (by omega)) (fun v115 hv115 => ?_))
            refine lv_lstore (lv' := [(7, .long v115), (6, .int a7)]) C.1 C.2.1 dX11_spelt_118 hl (by decide) rfl (fun ls hl => ?_)
            exact J111 v115  (by omega) _ _ _ hw (lv_sub hl [0] rfl)
        refine lv_if_le (tgt := 99) C.1 C.2.1 dX11_spelt_80 (by decide) (fun c91 => ?_) (fun c91 => ?_)
        · skip
          have c91 : a6.toInt ≤ 0 := i_leT (X := a6.toInt) (Y := 0) rfl rfl c91
          exact J97 j75  (by omega) _ _ _ hw (lv_sub hl [0, 2] rfl)
        · skip
          have c91 : 0 < a6.toInt := i_leF (X := a6.toInt) (Y := 0) rfl rfl c91
          refine lv_ldc2 (v := 27) C.1 C.2.1 C.2.2.2.1 (C.2.2.2.2 _ kw1353) dX11_spelt_83 ?_
          refine lv_lload C.1 C.2.1 dX11_spelt_86 (lv_at hl 0 rfl) ?_
          refine lv_lmul C.1 C.2.1 dX11_spelt_88 (x_genlP (fun z : Int64 => z.toInt = 27 * j75.toInt) (l_mul (X := 27) (Y := j75.toInt) rfl rfl (by omega) (by omega)) (fun v116 hv116 => ?_))
          refine lv_iload C.1 C.2.1 dX11_spelt_89 (lv_at hl 1 rfl) ?_
          refine lv_i2l (v := a6.toInt64) C.1 C.2.1 dX11_spelt_91 rfl (x_genlP (fun z : Int64 => z.toInt = a6.toInt) (l_i2l _) (fun v117 hv117 => ?_))
          refine lv_ladd C.1 C.2.1 dX11_spelt_92 (x_genlP (fun z : Int64 => z.toInt = v116.toInt + v117.toInt) (l_add (X := v116.toInt) (Y := v117.toInt) rfl rfl (by omega) (by omega)) (fun v118 hv118 => ?_))
          refine lv_ldc2 (v := 96) C.1 C.2.1 C.2.2.2.1 (C.2.2.2.2 _ kw1354) dX11_spelt_93 ?_
          refine lv_lsub C.1 C.2.1 dX11_spelt_96 (x_genlP (fun z : Int64 => z.toInt = v118.toInt - 96) (l_sub (X := v118.toInt) (Y := 96) rfl rfl (by omega) (by omega)) (fun v119 hv119 => ?_))
          refine lv_lstore (lv' := [(7, .long v119), (5, .int a6), (6, .int a7)]) C.1 C.2.1 dX11_spelt_97 hl (by decide) rfl (fun ls hl => ?_)
          exact J97 v119  (by omega) _ _ _ hw (lv_sub hl [0, 2] rfl)
      refine lv_if_le (tgt := 78) C.1 C.2.1 dX11_spelt_59 (by decide) (fun c70 => ?_) (fun c70 => ?_)
      · skip
        have c70 : a5.toInt ≤ 0 := i_leT (X := a5.toInt) (Y := 0) rfl rfl c70
        exact J76 j47  (by omega) _ _ _ hw (lv_sub hl [0, 2, 3] rfl)
      · skip
        have c70 : 0 < a5.toInt := i_leF (X := a5.toInt) (Y := 0) rfl rfl c70
        refine lv_ldc2 (v := 27) C.1 C.2.1 C.2.2.2.1 (C.2.2.2.2 _ kw1353) dX11_spelt_62 ?_
        refine lv_lload C.1 C.2.1 dX11_spelt_65 (lv_at hl 0 rfl) ?_
        refine lv_lmul C.1 C.2.1 dX11_spelt_67 (x_genlP (fun z : Int64 => z.toInt = 27 * j47.toInt) (l_mul (X := 27) (Y := j47.toInt) rfl rfl (by omega) (by omega)) (fun v120 hv120 => ?_))
        refine lv_iload C.1 C.2.1 dX11_spelt_68 (lv_at hl 1 rfl) ?_
        refine lv_i2l (v := a5.toInt64) C.1 C.2.1 dX11_spelt_70 rfl (x_genlP (fun z : Int64 => z.toInt = a5.toInt) (l_i2l _) (fun v121 hv121 => ?_))
        refine lv_ladd C.1 C.2.1 dX11_spelt_71 (x_genlP (fun z : Int64 => z.toInt = v120.toInt + v121.toInt) (l_add (X := v120.toInt) (Y := v121.toInt) rfl rfl (by omega) (by omega)) (fun v122 hv122 => ?_))
        refine lv_ldc2 (v := 96) C.1 C.2.1 C.2.2.2.1 (C.2.2.2.2 _ kw1354) dX11_spelt_72 ?_
        refine lv_lsub C.1 C.2.1 dX11_spelt_75 (x_genlP (fun z : Int64 => z.toInt = v122.toInt - 96) (l_sub (X := v122.toInt) (Y := 96) rfl rfl (by omega) (by omega)) (fun v123 hv123 => ?_))
        refine lv_lstore (lv' := [(7, .long v123), (4, .int a5), (5, .int a6), (6, .int a7)]) C.1 C.2.1 dX11_spelt_76 hl (by decide) rfl (fun ls hl => ?_)
        exact J76 v123  (by omega) _ _ _ hw (lv_sub hl [0, 2, 3] rfl)
    refine lv_if_le (tgt := 57) C.1 C.2.1 dX11_spelt_39 (by decide) (fun c42 => ?_) (fun c42 => ?_)
    · skip
      have c42 : a4.toInt ≤ 0 := i_leT (X := a4.toInt) (Y := 0) rfl rfl c42
      exact J48 j12  (by omega) _ _ _ hw (lv_sub hl [0, 2, 3, 4] rfl)
    · skip
      have c42 : 0 < a4.toInt := i_leF (X := a4.toInt) (Y := 0) rfl rfl c42
      refine lv_ldc2 (v := 27) C.1 C.2.1 C.2.2.2.1 (C.2.2.2.2 _ kw1353) dX11_spelt_42 ?_
      refine lv_lload C.1 C.2.1 dX11_spelt_45 (lv_at hl 0 rfl) ?_
      refine lv_lmul C.1 C.2.1 dX11_spelt_47 (x_genlP (fun z : Int64 => z.toInt = 27 * j12.toInt) (l_mul (X := 27) (Y := j12.toInt) rfl rfl (by omega) (by omega)) (fun v124 hv124 => ?_))
      refine lv_iload_n C.1 C.2.1 dX11_spelt_48 rfl (lv_at hl 1 rfl) ?_
      refine lv_i2l (v := a4.toInt64) C.1 C.2.1 dX11_spelt_49 rfl (x_genlP (fun z : Int64 => z.toInt = a4.toInt) (l_i2l _) (fun v125 hv125 => ?_))
      refine lv_ladd C.1 C.2.1 dX11_spelt_50 (x_genlP (fun z : Int64 => z.toInt = v124.toInt + v125.toInt) (l_add (X := v124.toInt) (Y := v125.toInt) rfl rfl (by omega) (by omega)) (fun v126 hv126 => ?_))
      refine lv_ldc2 (v := 96) C.1 C.2.1 C.2.2.2.1 (C.2.2.2.2 _ kw1354) dX11_spelt_51 ?_
      refine lv_lsub C.1 C.2.1 dX11_spelt_54 (x_genlP (fun z : Int64 => z.toInt = v126.toInt - 96) (l_sub (X := v126.toInt) (Y := 96) rfl rfl (by omega) (by omega)) (fun v127 hv127 => ?_))
      refine lv_lstore (lv' := [(7, .long v127), (3, .int a4), (4, .int a5), (5, .int a6), (6, .int a7)]) C.1 C.2.1 dX11_spelt_55 hl (by decide) rfl (fun ls hl => ?_)
      exact J48 v127  (by omega) _ _ _ hw (lv_sub hl [0, 2, 3, 4] rfl)
  refine lv_if_le (tgt := 38) C.1 C.2.1 dX11_spelt_20 (by decide) (fun c7 => ?_) (fun c7 => ?_)
  · skip
    have c7 : a3.toInt ≤ 0 := i_leT (X := a3.toInt) (Y := 0) rfl rfl c7
    exact J13 v6  (by omega) _ _ _ hw (lv_sub hl [0, 4, 5, 6, 7] rfl)
  · skip
    have c7 : 0 < a3.toInt := i_leF (X := a3.toInt) (Y := 0) rfl rfl c7
    refine lv_ldc2 (v := 27) C.1 C.2.1 C.2.2.2.1 (C.2.2.2.2 _ kw1353) dX11_spelt_23 ?_
    refine lv_lload C.1 C.2.1 dX11_spelt_26 (lv_at hl 0 rfl) ?_
    refine lv_lmul C.1 C.2.1 dX11_spelt_28 (x_genlP (fun z : Int64 => z.toInt = 27 * v6.toInt) (l_mul (X := 27) (Y := v6.toInt) rfl rfl (by omega) (by omega)) (fun v128 hv128 => ?_))
    refine lv_iload_n C.1 C.2.1 dX11_spelt_29 rfl (lv_at hl 3 rfl) ?_
    refine lv_i2l (v := a3.toInt64) C.1 C.2.1 dX11_spelt_30 rfl (x_genlP (fun z : Int64 => z.toInt = a3.toInt) (l_i2l _) (fun v129 hv129 => ?_))
    refine lv_ladd C.1 C.2.1 dX11_spelt_31 (x_genlP (fun z : Int64 => z.toInt = v128.toInt + v129.toInt) (l_add (X := v128.toInt) (Y := v129.toInt) rfl rfl (by omega) (by omega)) (fun v130 hv130 => ?_))
    refine lv_ldc2 (v := 96) C.1 C.2.1 C.2.2.2.1 (C.2.2.2.2 _ kw1354) dX11_spelt_32 ?_
    refine lv_lsub C.1 C.2.1 dX11_spelt_35 (x_genlP (fun z : Int64 => z.toInt = v130.toInt - 96) (l_sub (X := v130.toInt) (Y := 96) rfl rfl (by omega) (by omega)) (fun v131 hv131 => ?_))
    refine lv_lstore (lv' := [(7, .long v131), (0, .int a1), (1, .int a2), (2, .int a3), (3, .int a4), (4, .int a5), (5, .int a6), (6, .int a7)]) C.1 C.2.1 dX11_spelt_36 hl (by decide) rfl (fun ls hl => ?_)
    exact J13 v131  (by omega) _ _ _ hw (lv_sub hl [0, 4, 5, 6, 7] rfl)
set_option maxHeartbeats 4000000 in
set_option maxRecDepth 100000 in
theorem s_X11_wordOfB {l : Launch} {G : Gc} (a1 : Int32)  : Cl l yX11_wordOf cX11_wordOf 1 1 0 0 G [.int a1] [] (fun (r9 : Int64) (u9 : va_W) => ∃ (r_x : Int64), r9 = r_x ∧ u9 = [] ∧ (0 ≤ r_x.toInt ∧ r_x.toInt ≤ 10460353202)) := by
  refine Cl.ofQ (by decide) (Nat.le_of_ble_eq_true rfl) ?_
  intro p e s m below meth c ls A args Q hQ B hw hl
  have C : CallFix p m c cX11_wordOf 1 s args gw "LanternStateModel" := B.1
  have hl : lv_has ls 1 [(0, .int a1)] := hl
  refine lv_iload_n C.1 C.2.1 dX11_wordOf_0 rfl (lv_at hl 0 rfl) ?_
  have k1 : a1.toInt = 0 ∨ a1.toInt = 1 ∨ a1.toInt = 2 ∨ a1.toInt = 3 ∨ a1.toInt = 4 ∨ a1.toInt = 5 ∨ a1.toInt = 6 ∨ a1.toInt = 7 ∨ a1.toInt = 8 ∨ a1.toInt = 9 ∨ a1.toInt = 10 ∨ a1.toInt = 11 ∨ a1.toInt = 12 ∨ a1.toInt = 13 ∨ a1.toInt = 14 ∨ a1.toInt = 15 ∨ a1.toInt = 16 ∨ a1.toInt = 17 ∨ a1.toInt = 18 ∨ a1.toInt = 19 ∨ a1.toInt = 20 ∨ a1.toInt = 21 ∨ a1.toInt = 22 ∨ a1.toInt = 23 ∨ a1.toInt = 24 ∨ a1.toInt = 25 ∨ (a1.toInt ≠ 0 ∧ a1.toInt ≠ 1 ∧ a1.toInt ≠ 2 ∧ a1.toInt ≠ 3 ∧ a1.toInt ≠ 4 ∧ a1.toInt ≠ 5 ∧ a1.toInt ≠ 6 ∧ a1.toInt ≠ 7 ∧ a1.toInt ≠ 8 ∧ a1.toInt ≠ 9 ∧ a1.toInt ≠ 10 ∧ a1.toInt ≠ 11 ∧ a1.toInt ≠ 12 ∧ a1.toInt ≠ 13 ∧ a1.toInt ≠ 14 ∧ a1.toInt ≠ 15 ∧ a1.toInt ≠ 16 ∧ a1.toInt ≠ 17 ∧ a1.toInt ≠ 18 ∧ a1.toInt ≠ 19 ∧ a1.toInt ≠ 20 ∧ a1.toInt ≠ 21 ∧ a1.toInt ≠ 22 ∧ a1.toInt ≠ 23 ∧ a1.toInt ≠ 24 ∧ a1.toInt ≠ 25) := by omega
  rcases k1 with k1 | k1 | k1 | k1 | k1 | k1 | k1 | k1 | k1 | k1 | k1 | k1 | k1 | k1 | k1 | k1 | k1 | k1 | k1 | k1 | k1 | k1 | k1 | k1 | k1 | k1 | k1
  · skip
    have k1 : a1 = 0 := Int32.toInt_inj.mp (by rw [k1]; rfl)
    refine x_topi (z := 0) k1 ?_
    refine lv_tableIn (off := 119) (tgt := 120) C.1 C.2.1 dX11_wordOf_1 (by decide) (by decide) rfl (by decide) ?_
    have ha1_ := congrArg Int32.toInt k1
    have ha1_ : a1.toInt = 0 := ha1_
    refine lv_bipush (v := 115) C.1 C.2.1 dX11_wordOf_120 (by decide) ?_
    refine lv_bipush (v := 108) C.1 C.2.1 dX11_wordOf_122 (by decide) ?_
    refine lv_bipush (v := 105) C.1 C.2.1 dX11_wordOf_124 (by decide) ?_
    refine lv_bipush (v := 100) C.1 C.2.1 dX11_wordOf_126 (by decide) ?_
    refine lv_bipush (v := 101) C.1 C.2.1 dX11_wordOf_128 (by decide) ?_
    refine lv_iconst (v := 0) C.1 C.2.1 dX11_wordOf_130 (by decide) ?_
    refine lv_iconst (v := 0) C.1 C.2.1 dX11_wordOf_131 (by decide) ?_
    refine x_calllS (As := [.int 115, .int 108, .int 105, .int 100, .int 101, .int 0, .int 0]) (rest := []) (wr := []) C hw (s_X11_speltB 115 108 105 100 101 0 0 (by decide) (by decide) (by decide) (by decide) (by decide) (by decide) (by decide) (by have e0 : (105 : Int32).toInt = 105 := rfl; omega) (by have e0 : (100 : Int32).toInt = 100 := rfl; omega) (by have e0 : (101 : Int32).toInt = 101 := rfl; omega) (by have e0 : (0 : Int32).toInt = 0 := rfl; omega) (by have e0 : (0 : Int32).toInt = 0 := rfl; omega)) mwX11_spelt kw1366 [] [] rfl rfl rfl rfl (by decide) rfl hl.1 rfl (Nat.le_of_ble_eq_true rfl) ⟨(Nat.le_of_ble_eq_true rfl), (Nat.le_of_ble_eq_true rfl)⟩ ⟨(Nat.le_of_ble_eq_true rfl), (Nat.le_of_ble_eq_true rfl)⟩ dX11_wordOf_132 (fun r2 u9 H locs hp9 hw => ?_)
    obtain ⟨x3, rfl, rfl, hf4⟩ := hp9
    have hw : Wd G s A [] H _ := hw
    exact x_retlQ hQ B hw ⟨r2, rfl, rfl, (by omega)⟩ (Nat.le_of_ble_eq_true rfl) (Nat.le_of_ble_eq_true rfl) dX11_wordOf_135
  · skip
    have k1 : a1 = 1 := Int32.toInt_inj.mp (by rw [k1]; rfl)
    refine x_topi (z := 1) k1 ?_
    refine lv_tableIn (off := 135) (tgt := 136) C.1 C.2.1 dX11_wordOf_1 (by decide) (by decide) rfl (by decide) ?_
    have ha1_ := congrArg Int32.toInt k1
    have ha1_ : a1.toInt = 1 := ha1_
    refine lv_bipush (v := 104) C.1 C.2.1 dX11_wordOf_136 (by decide) ?_
    refine lv_bipush (v := 101) C.1 C.2.1 dX11_wordOf_138 (by decide) ?_
    refine lv_bipush (v := 97) C.1 C.2.1 dX11_wordOf_140 (by decide) ?_
    refine lv_bipush (v := 114) C.1 C.2.1 dX11_wordOf_142 (by decide) ?_
    refine lv_bipush (v := 101) C.1 C.2.1 dX11_wordOf_144 (by decide) ?_
    refine lv_bipush (v := 114) C.1 C.2.1 dX11_wordOf_146 (by decide) ?_
    refine lv_iconst (v := 0) C.1 C.2.1 dX11_wordOf_148 (by decide) ?_
    refine x_calllS (As := [.int 104, .int 101, .int 97, .int 114, .int 101, .int 114, .int 0]) (rest := []) (wr := []) C hw (s_X11_speltB 104 101 97 114 101 114 0 (by decide) (by decide) (by decide) (by decide) (by decide) (by decide) (by decide) (by have e0 : (97 : Int32).toInt = 97 := rfl; omega) (by have e0 : (114 : Int32).toInt = 114 := rfl; omega) (by have e0 : (101 : Int32).toInt = 101 := rfl; omega) (by have e0 : (114 : Int32).toInt = 114 := rfl; omega) (by have e0 : (0 : Int32).toInt = 0 := rfl; omega)) mwX11_spelt kw1366 [] [] rfl rfl rfl rfl (by decide) rfl hl.1 rfl (Nat.le_of_ble_eq_true rfl) ⟨(Nat.le_of_ble_eq_true rfl), (Nat.le_of_ble_eq_true rfl)⟩ ⟨(Nat.le_of_ble_eq_true rfl), (Nat.le_of_ble_eq_true rfl)⟩ dX11_wordOf_149 (fun r5 u9 H locs hp9 hw => ?_)
    obtain ⟨x6, rfl, rfl, hf7⟩ := hp9
    have hw : Wd G s A [] H _ := hw
    exact x_retlQ hQ B hw ⟨r5, rfl, rfl, (by omega)⟩ (Nat.le_of_ble_eq_true rfl) (Nat.le_of_ble_eq_true rfl) dX11_wordOf_152
  · skip
    have k1 : a1 = 2 := Int32.toInt_inj.mp (by rw [k1]; rfl)
    refine x_topi (z := 2) k1 ?_
    refine lv_tableIn (off := 152) (tgt := 153) C.1 C.2.1 dX11_wordOf_1 (by decide) (by decide) rfl (by decide) ?_
    have ha1_ := congrArg Int32.toInt k1
    have ha1_ : a1.toInt = 2 := ha1_
    refine lv_bipush (v := 102) C.1 C.2.1 dX11_wordOf_153 (by decide) ?_
    refine lv_bipush (v := 114) C.1 C.2.1 dX11_wordOf_155 (by decide) ?_
    refine lv_bipush (v := 111) C.1 C.2.1 dX11_wordOf_157 (by decide) ?_
    refine lv_bipush (v := 110) C.1 C.2.1 dX11_wordOf_159 (by decide) ?_
    refine lv_bipush (v := 116) C.1 C.2.1 dX11_wordOf_161 (by decide) ?_
    refine lv_iconst (v := 0) C.1 C.2.1 dX11_wordOf_163 (by decide) ?_
    refine lv_iconst (v := 0) C.1 C.2.1 dX11_wordOf_164 (by decide) ?_
    refine x_calllS (As := [.int 102, .int 114, .int 111, .int 110, .int 116, .int 0, .int 0]) (rest := []) (wr := []) C hw (s_X11_speltB 102 114 111 110 116 0 0 (by decide) (by decide) (by decide) (by decide) (by decide) (by decide) (by decide) (by have e0 : (111 : Int32).toInt = 111 := rfl; omega) (by have e0 : (110 : Int32).toInt = 110 := rfl; omega) (by have e0 : (116 : Int32).toInt = 116 := rfl; omega) (by have e0 : (0 : Int32).toInt = 0 := rfl; omega) (by have e0 : (0 : Int32).toInt = 0 := rfl; omega)) mwX11_spelt kw1366 [] [] rfl rfl rfl rfl (by decide) rfl hl.1 rfl (Nat.le_of_ble_eq_true rfl) ⟨(Nat.le_of_ble_eq_true rfl), (Nat.le_of_ble_eq_true rfl)⟩ ⟨(Nat.le_of_ble_eq_true rfl), (Nat.le_of_ble_eq_true rfl)⟩ dX11_wordOf_165 (fun r8 u9 H locs hp9 hw => ?_)
    obtain ⟨x9, rfl, rfl, hf10⟩ := hp9
    have hw : Wd G s A [] H _ := hw
    exact x_retlQ hQ B hw ⟨r8, rfl, rfl, (by omega)⟩ (Nat.le_of_ble_eq_true rfl) (Nat.le_of_ble_eq_true rfl) dX11_wordOf_168
  · skip
    have k1 : a1 = 3 := Int32.toInt_inj.mp (by rw [k1]; rfl)
    refine x_topi (z := 3) k1 ?_
    refine lv_tableIn (off := 168) (tgt := 169) C.1 C.2.1 dX11_wordOf_1 (by decide) (by decide) rfl (by decide) ?_
    have ha1_ := congrArg Int32.toInt k1
    have ha1_ : a1.toInt = 3 := ha1_
    refine lv_bipush (v := 98) C.1 C.2.1 dX11_wordOf_169 (by decide) ?_
    refine lv_bipush (v := 101) C.1 C.2.1 dX11_wordOf_171 (by decide) ?_
    refine lv_bipush (v := 104) C.1 C.2.1 dX11_wordOf_173 (by decide) ?_
    refine lv_bipush (v := 105) C.1 C.2.1 dX11_wordOf_175 (by decide) ?_
    refine lv_bipush (v := 110) C.1 C.2.1 dX11_wordOf_177 (by decide) ?_
    refine lv_bipush (v := 100) C.1 C.2.1 dX11_wordOf_179 (by decide) ?_
    refine lv_iconst (v := 0) C.1 C.2.1 dX11_wordOf_181 (by decide) ?_
    refine x_calllS (As := [.int 98, .int 101, .int 104, .int 105, .int 110, .int 100, .int 0]) (rest := []) (wr := []) C hw (s_X11_speltB 98 101 104 105 110 100 0 (by decide) (by decide) (by decide) (by decide) (by decide) (by decide) (by decide) (by have e0 : (104 : Int32).toInt = 104 := rfl; omega) (by have e0 : (105 : Int32).toInt = 105 := rfl; omega) (by have e0 : (110 : Int32).toInt = 110 := rfl; omega) (by have e0 : (100 : Int32).toInt = 100 := rfl; omega) (by have e0 : (0 : Int32).toInt = 0 := rfl; omega)) mwX11_spelt kw1366 [] [] rfl rfl rfl rfl (by decide) rfl hl.1 rfl (Nat.le_of_ble_eq_true rfl) ⟨(Nat.le_of_ble_eq_true rfl), (Nat.le_of_ble_eq_true rfl)⟩ ⟨(Nat.le_of_ble_eq_true rfl), (Nat.le_of_ble_eq_true rfl)⟩ dX11_wordOf_182 (fun r11 u9 H locs hp9 hw => ?_)
    obtain ⟨x12, rfl, rfl, hf13⟩ := hp9
    have hw : Wd G s A [] H _ := hw
    exact x_retlQ hQ B hw ⟨r11, rfl, rfl, (by omega)⟩ (Nat.le_of_ble_eq_true rfl) (Nat.le_of_ble_eq_true rfl) dX11_wordOf_185
  · skip
    have k1 : a1 = 4 := Int32.toInt_inj.mp (by rw [k1]; rfl)
    refine x_topi (z := 4) k1 ?_
    refine lv_tableIn (off := 185) (tgt := 186) C.1 C.2.1 dX11_wordOf_1 (by decide) (by decide) rfl (by decide) ?_
    have ha1_ := congrArg Int32.toInt k1
    have ha1_ : a1.toInt = 4 := ha1_
    refine lv_bipush (v := 108) C.1 C.2.1 dX11_wordOf_186 (by decide) ?_
    refine lv_bipush (v := 105) C.1 C.2.1 dX11_wordOf_188 (by decide) ?_
    refine lv_bipush (v := 107) C.1 C.2.1 dX11_wordOf_190 (by decide) ?_
    refine lv_bipush (v := 101) C.1 C.2.1 dX11_wordOf_192 (by decide) ?_
    refine lv_bipush (v := 115) C.1 C.2.1 dX11_wordOf_194 (by decide) ?_
    refine lv_iconst (v := 0) C.1 C.2.1 dX11_wordOf_196 (by decide) ?_
    refine lv_iconst (v := 0) C.1 C.2.1 dX11_wordOf_197 (by decide) ?_
    refine x_calllS (As := [.int 108, .int 105, .int 107, .int 101, .int 115, .int 0, .int 0]) (rest := []) (wr := []) C hw (s_X11_speltB 108 105 107 101 115 0 0 (by decide) (by decide) (by decide) (by decide) (by decide) (by decide) (by decide) (by have e0 : (107 : Int32).toInt = 107 := rfl; omega) (by have e0 : (101 : Int32).toInt = 101 := rfl; omega) (by have e0 : (115 : Int32).toInt = 115 := rfl; omega) (by have e0 : (0 : Int32).toInt = 0 := rfl; omega) (by have e0 : (0 : Int32).toInt = 0 := rfl; omega)) mwX11_spelt kw1366 [] [] rfl rfl rfl rfl (by decide) rfl hl.1 rfl (Nat.le_of_ble_eq_true rfl) ⟨(Nat.le_of_ble_eq_true rfl), (Nat.le_of_ble_eq_true rfl)⟩ ⟨(Nat.le_of_ble_eq_true rfl), (Nat.le_of_ble_eq_true rfl)⟩ dX11_wordOf_198 (fun r14 u9 H locs hp9 hw => ?_)
    obtain ⟨x15, rfl, rfl, hf16⟩ := hp9
    have hw : Wd G s A [] H _ := hw
    exact x_retlQ hQ B hw ⟨r14, rfl, rfl, (by omega)⟩ (Nat.le_of_ble_eq_true rfl) (Nat.le_of_ble_eq_true rfl) dX11_wordOf_201
  · skip
    have k1 : a1 = 5 := Int32.toInt_inj.mp (by rw [k1]; rfl)
    refine x_topi (z := 5) k1 ?_
    refine lv_tableIn (off := 201) (tgt := 202) C.1 C.2.1 dX11_wordOf_1 (by decide) (by decide) rfl (by decide) ?_
    have ha1_ := congrArg Int32.toInt k1
    have ha1_ : a1.toInt = 5 := ha1_
    refine lv_bipush (v := 104) C.1 C.2.1 dX11_wordOf_202 (by decide) ?_
    refine lv_bipush (v := 97) C.1 C.2.1 dX11_wordOf_204 (by decide) ?_
    refine lv_bipush (v := 116) C.1 C.2.1 dX11_wordOf_206 (by decide) ?_
    refine lv_bipush (v := 101) C.1 C.2.1 dX11_wordOf_208 (by decide) ?_
    refine lv_bipush (v := 115) C.1 C.2.1 dX11_wordOf_210 (by decide) ?_
    refine lv_iconst (v := 0) C.1 C.2.1 dX11_wordOf_212 (by decide) ?_
    refine lv_iconst (v := 0) C.1 C.2.1 dX11_wordOf_213 (by decide) ?_
    refine x_calllS (As := [.int 104, .int 97, .int 116, .int 101, .int 115, .int 0, .int 0]) (rest := []) (wr := []) C hw (s_X11_speltB 104 97 116 101 115 0 0 (by decide) (by decide) (by decide) (by decide) (by decide) (by decide) (by decide) (by have e0 : (116 : Int32).toInt = 116 := rfl; omega) (by have e0 : (101 : Int32).toInt = 101 := rfl; omega) (by have e0 : (115 : Int32).toInt = 115 := rfl; omega) (by have e0 : (0 : Int32).toInt = 0 := rfl; omega) (by have e0 : (0 : Int32).toInt = 0 := rfl; omega)) mwX11_spelt kw1366 [] [] rfl rfl rfl rfl (by decide) rfl hl.1 rfl (Nat.le_of_ble_eq_true rfl) ⟨(Nat.le_of_ble_eq_true rfl), (Nat.le_of_ble_eq_true rfl)⟩ ⟨(Nat.le_of_ble_eq_true rfl), (Nat.le_of_ble_eq_true rfl)⟩ dX11_wordOf_214 (fun r17 u9 H locs hp9 hw => ?_)
    obtain ⟨x18, rfl, rfl, hf19⟩ := hp9
    have hw : Wd G s A [] H _ := hw
    exact x_retlQ hQ B hw ⟨r17, rfl, rfl, (by omega)⟩ (Nat.le_of_ble_eq_true rfl) (Nat.le_of_ble_eq_true rfl) dX11_wordOf_217
  · skip
    have k1 : a1 = 6 := Int32.toInt_inj.mp (by rw [k1]; rfl)
    refine x_topi (z := 6) k1 ?_
    refine lv_tableIn (off := 217) (tgt := 218) C.1 C.2.1 dX11_wordOf_1 (by decide) (by decide) rfl (by decide) ?_
    have ha1_ := congrArg Int32.toInt k1
    have ha1_ : a1.toInt = 6 := ha1_
    refine lv_bipush (v := 110) C.1 C.2.1 dX11_wordOf_218 (by decide) ?_
    refine lv_bipush (v := 101) C.1 C.2.1 dX11_wordOf_220 (by decide) ?_
    refine lv_bipush (v := 97) C.1 C.2.1 dX11_wordOf_222 (by decide) ?_
    refine lv_bipush (v := 114) C.1 C.2.1 dX11_wordOf_224 (by decide) ?_
    refine lv_iconst (v := 0) C.1 C.2.1 dX11_wordOf_226 (by decide) ?_
    refine lv_iconst (v := 0) C.1 C.2.1 dX11_wordOf_227 (by decide) ?_
    refine lv_iconst (v := 0) C.1 C.2.1 dX11_wordOf_228 (by decide) ?_
    refine x_calllS (As := [.int 110, .int 101, .int 97, .int 114, .int 0, .int 0, .int 0]) (rest := []) (wr := []) C hw (s_X11_speltB 110 101 97 114 0 0 0 (by decide) (by decide) (by decide) (by decide) (by decide) (by decide) (by decide) (by have e0 : (97 : Int32).toInt = 97 := rfl; omega) (by have e0 : (114 : Int32).toInt = 114 := rfl; omega) (by have e0 : (0 : Int32).toInt = 0 := rfl; omega) (by have e0 : (0 : Int32).toInt = 0 := rfl; omega) (by have e0 : (0 : Int32).toInt = 0 := rfl; omega)) mwX11_spelt kw1366 [] [] rfl rfl rfl rfl (by decide) rfl hl.1 rfl (Nat.le_of_ble_eq_true rfl) ⟨(Nat.le_of_ble_eq_true rfl), (Nat.le_of_ble_eq_true rfl)⟩ ⟨(Nat.le_of_ble_eq_true rfl), (Nat.le_of_ble_eq_true rfl)⟩ dX11_wordOf_229 (fun r20 u9 H locs hp9 hw => ?_)
    obtain ⟨x21, rfl, rfl, hf22⟩ := hp9
    have hw : Wd G s A [] H _ := hw
    exact x_retlQ hQ B hw ⟨r20, rfl, rfl, (by omega)⟩ (Nat.le_of_ble_eq_true rfl) (Nat.le_of_ble_eq_true rfl) dX11_wordOf_232
  · skip
    have k1 : a1 = 7 := Int32.toInt_inj.mp (by rw [k1]; rfl)
    refine x_topi (z := 7) k1 ?_
    refine lv_tableIn (off := 232) (tgt := 233) C.1 C.2.1 dX11_wordOf_1 (by decide) (by decide) rfl (by decide) ?_
    have ha1_ := congrArg Int32.toInt k1
    have ha1_ : a1.toInt = 7 := ha1_
    refine lv_bipush (v := 97) C.1 C.2.1 dX11_wordOf_233 (by decide) ?_
    refine lv_bipush (v := 102) C.1 C.2.1 dX11_wordOf_235 (by decide) ?_
    refine lv_bipush (v := 116) C.1 C.2.1 dX11_wordOf_237 (by decide) ?_
    refine lv_bipush (v := 101) C.1 C.2.1 dX11_wordOf_239 (by decide) ?_
    refine lv_bipush (v := 114) C.1 C.2.1 dX11_wordOf_241 (by decide) ?_
    refine lv_iconst (v := 0) C.1 C.2.1 dX11_wordOf_243 (by decide) ?_
    refine lv_iconst (v := 0) C.1 C.2.1 dX11_wordOf_244 (by decide) ?_
    refine x_calllS (As := [.int 97, .int 102, .int 116, .int 101, .int 114, .int 0, .int 0]) (rest := []) (wr := []) C hw (s_X11_speltB 97 102 116 101 114 0 0 (by decide) (by decide) (by decide) (by decide) (by decide) (by decide) (by decide) (by have e0 : (116 : Int32).toInt = 116 := rfl; omega) (by have e0 : (101 : Int32).toInt = 101 := rfl; omega) (by have e0 : (114 : Int32).toInt = 114 := rfl; omega) (by have e0 : (0 : Int32).toInt = 0 := rfl; omega) (by have e0 : (0 : Int32).toInt = 0 := rfl; omega)) mwX11_spelt kw1366 [] [] rfl rfl rfl rfl (by decide) rfl hl.1 rfl (Nat.le_of_ble_eq_true rfl) ⟨(Nat.le_of_ble_eq_true rfl), (Nat.le_of_ble_eq_true rfl)⟩ ⟨(Nat.le_of_ble_eq_true rfl), (Nat.le_of_ble_eq_true rfl)⟩ dX11_wordOf_245 (fun r23 u9 H locs hp9 hw => ?_)
    obtain ⟨x24, rfl, rfl, hf25⟩ := hp9
    have hw : Wd G s A [] H _ := hw
    exact x_retlQ hQ B hw ⟨r23, rfl, rfl, (by omega)⟩ (Nat.le_of_ble_eq_true rfl) (Nat.le_of_ble_eq_true rfl) dX11_wordOf_248
  · skip
    have k1 : a1 = 8 := Int32.toInt_inj.mp (by rw [k1]; rfl)
    refine x_topi (z := 8) k1 ?_
    refine lv_tableIn (off := 248) (tgt := 249) C.1 C.2.1 dX11_wordOf_1 (by decide) (by decide) rfl (by decide) ?_
    have ha1_ := congrArg Int32.toInt k1
    have ha1_ : a1.toInt = 8 := ha1_
    refine lv_bipush (v := 112) C.1 C.2.1 dX11_wordOf_249 (by decide) ?_
    refine lv_bipush (v := 97) C.1 C.2.1 dX11_wordOf_251 (by decide) ?_
    refine lv_bipush (v := 115) C.1 C.2.1 dX11_wordOf_253 (by decide) ?_
    refine lv_bipush (v := 115) C.1 C.2.1 dX11_wordOf_255 (by decide) ?_
    refine lv_iconst (v := 0) C.1 C.2.1 dX11_wordOf_257 (by decide) ?_
    refine lv_iconst (v := 0) C.1 C.2.1 dX11_wordOf_258 (by decide) ?_
    refine lv_iconst (v := 0) C.1 C.2.1 dX11_wordOf_259 (by decide) ?_
    refine x_calllS (As := [.int 112, .int 97, .int 115, .int 115, .int 0, .int 0, .int 0]) (rest := []) (wr := []) C hw (s_X11_speltB 112 97 115 115 0 0 0 (by decide) (by decide) (by decide) (by decide) (by decide) (by decide) (by decide) (by have e0 : (115 : Int32).toInt = 115 := rfl; omega) (by have e0 : (115 : Int32).toInt = 115 := rfl; omega) (by have e0 : (0 : Int32).toInt = 0 := rfl; omega) (by have e0 : (0 : Int32).toInt = 0 := rfl; omega) (by have e0 : (0 : Int32).toInt = 0 := rfl; omega)) mwX11_spelt kw1366 [] [] rfl rfl rfl rfl (by decide) rfl hl.1 rfl (Nat.le_of_ble_eq_true rfl) ⟨(Nat.le_of_ble_eq_true rfl), (Nat.le_of_ble_eq_true rfl)⟩ ⟨(Nat.le_of_ble_eq_true rfl), (Nat.le_of_ble_eq_true rfl)⟩ dX11_wordOf_260 (fun r26 u9 H locs hp9 hw => ?_)
    obtain ⟨x27, rfl, rfl, hf28⟩ := hp9
    have hw : Wd G s A [] H _ := hw
    exact x_retlQ hQ B hw ⟨r26, rfl, rfl, (by omega)⟩ (Nat.le_of_ble_eq_true rfl) (Nat.le_of_ble_eq_true rfl) dX11_wordOf_263
  · skip
    have k1 : a1 = 9 := Int32.toInt_inj.mp (by rw [k1]; rfl)
    refine x_topi (z := 9) k1 ?_
    refine lv_tableIn (off := 263) (tgt := 264) C.1 C.2.1 dX11_wordOf_1 (by decide) (by decide) rfl (by decide) ?_
    have ha1_ := congrArg Int32.toInt k1
    have ha1_ : a1.toInt = 9 := ha1_
    refine lv_bipush (v := 115) C.1 C.2.1 dX11_wordOf_264 (by decide) ?_
    refine lv_bipush (v := 112) C.1 C.2.1 dX11_wordOf_266 (by decide) ?_
    refine lv_bipush (v := 114) C.1 C.2.1 dX11_wordOf_268 (by decide) ?_
    refine lv_bipush (v := 101) C.1 C.2.1 dX11_wordOf_270 (by decide) ?_
    refine lv_bipush (v := 97) C.1 C.2.1 dX11_wordOf_272 (by decide) ?_
    refine lv_bipush (v := 100) C.1 C.2.1 dX11_wordOf_274 (by decide) ?_
    refine lv_iconst (v := 0) C.1 C.2.1 dX11_wordOf_276 (by decide) ?_
    refine x_calllS (As := [.int 115, .int 112, .int 114, .int 101, .int 97, .int 100, .int 0]) (rest := []) (wr := []) C hw (s_X11_speltB 115 112 114 101 97 100 0 (by decide) (by decide) (by decide) (by decide) (by decide) (by decide) (by decide) (by have e0 : (114 : Int32).toInt = 114 := rfl; omega) (by have e0 : (101 : Int32).toInt = 101 := rfl; omega) (by have e0 : (97 : Int32).toInt = 97 := rfl; omega) (by have e0 : (100 : Int32).toInt = 100 := rfl; omega) (by have e0 : (0 : Int32).toInt = 0 := rfl; omega)) mwX11_spelt kw1366 [] [] rfl rfl rfl rfl (by decide) rfl hl.1 rfl (Nat.le_of_ble_eq_true rfl) ⟨(Nat.le_of_ble_eq_true rfl), (Nat.le_of_ble_eq_true rfl)⟩ ⟨(Nat.le_of_ble_eq_true rfl), (Nat.le_of_ble_eq_true rfl)⟩ dX11_wordOf_277 (fun r29 u9 H locs hp9 hw => ?_)
    obtain ⟨x30, rfl, rfl, hf31⟩ := hp9
    have hw : Wd G s A [] H _ := hw
    exact x_retlQ hQ B hw ⟨r29, rfl, rfl, (by omega)⟩ (Nat.le_of_ble_eq_true rfl) (Nat.le_of_ble_eq_true rfl) dX11_wordOf_280
  · skip
    have k1 : a1 = 10 := Int32.toInt_inj.mp (by rw [k1]; rfl)
    refine x_topi (z := 10) k1 ?_
    refine lv_tableIn (off := 280) (tgt := 281) C.1 C.2.1 dX11_wordOf_1 (by decide) (by decide) rfl (by decide) ?_
    have ha1_ := congrArg Int32.toInt k1
    have ha1_ : a1.toInt = 10 := ha1_
    refine lv_bipush (v := 108) C.1 C.2.1 dX11_wordOf_281 (by decide) ?_
    refine lv_bipush (v := 97) C.1 C.2.1 dX11_wordOf_283 (by decide) ?_
    refine lv_bipush (v := 109) C.1 C.2.1 dX11_wordOf_285 (by decide) ?_
    refine lv_bipush (v := 112) C.1 C.2.1 dX11_wordOf_287 (by decide) ?_
    refine lv_iconst (v := 0) C.1 C.2.1 dX11_wordOf_289 (by decide) ?_
    refine lv_iconst (v := 0) C.1 C.2.1 dX11_wordOf_290 (by decide) ?_
    refine lv_iconst (v := 0) C.1 C.2.1 dX11_wordOf_291 (by decide) ?_
    refine x_calllS (As := [.int 108, .int 97, .int 109, .int 112, .int 0, .int 0, .int 0]) (rest := []) (wr := []) C hw (s_X11_speltB 108 97 109 112 0 0 0 (by decide) (by decide) (by decide) (by decide) (by decide) (by decide) (by decide) (by have e0 : (109 : Int32).toInt = 109 := rfl; omega) (by have e0 : (112 : Int32).toInt = 112 := rfl; omega) (by have e0 : (0 : Int32).toInt = 0 := rfl; omega) (by have e0 : (0 : Int32).toInt = 0 := rfl; omega) (by have e0 : (0 : Int32).toInt = 0 := rfl; omega)) mwX11_spelt kw1366 [] [] rfl rfl rfl rfl (by decide) rfl hl.1 rfl (Nat.le_of_ble_eq_true rfl) ⟨(Nat.le_of_ble_eq_true rfl), (Nat.le_of_ble_eq_true rfl)⟩ ⟨(Nat.le_of_ble_eq_true rfl), (Nat.le_of_ble_eq_true rfl)⟩ dX11_wordOf_292 (fun r32 u9 H locs hp9 hw => ?_)
    obtain ⟨x33, rfl, rfl, hf34⟩ := hp9
    have hw : Wd G s A [] H _ := hw
    exact x_retlQ hQ B hw ⟨r32, rfl, rfl, (by omega)⟩ (Nat.le_of_ble_eq_true rfl) (Nat.le_of_ble_eq_true rfl) dX11_wordOf_295
  · skip
    have k1 : a1 = 11 := Int32.toInt_inj.mp (by rw [k1]; rfl)
    refine x_topi (z := 11) k1 ?_
    refine lv_tableIn (off := 295) (tgt := 296) C.1 C.2.1 dX11_wordOf_1 (by decide) (by decide) rfl (by decide) ?_
    have ha1_ := congrArg Int32.toInt k1
    have ha1_ : a1.toInt = 11 := ha1_
    refine lv_bipush (v := 115) C.1 C.2.1 dX11_wordOf_296 (by decide) ?_
    refine lv_bipush (v := 104) C.1 C.2.1 dX11_wordOf_298 (by decide) ?_
    refine lv_bipush (v := 111) C.1 C.2.1 dX11_wordOf_300 (by decide) ?_
    refine lv_bipush (v := 119) C.1 C.2.1 dX11_wordOf_302 (by decide) ?_
    refine lv_bipush (v := 110) C.1 C.2.1 dX11_wordOf_304 (by decide) ?_
    refine lv_iconst (v := 0) C.1 C.2.1 dX11_wordOf_306 (by decide) ?_
    refine lv_iconst (v := 0) C.1 C.2.1 dX11_wordOf_307 (by decide) ?_
    refine x_calllS (As := [.int 115, .int 104, .int 111, .int 119, .int 110, .int 0, .int 0]) (rest := []) (wr := []) C hw (s_X11_speltB 115 104 111 119 110 0 0 (by decide) (by decide) (by decide) (by decide) (by decide) (by decide) (by decide) (by have e0 : (111 : Int32).toInt = 111 := rfl; omega) (by have e0 : (119 : Int32).toInt = 119 := rfl; omega) (by have e0 : (110 : Int32).toInt = 110 := rfl; omega) (by have e0 : (0 : Int32).toInt = 0 := rfl; omega) (by have e0 : (0 : Int32).toInt = 0 := rfl; omega)) mwX11_spelt kw1366 [] [] rfl rfl rfl rfl (by decide) rfl hl.1 rfl (Nat.le_of_ble_eq_true rfl) ⟨(Nat.le_of_ble_eq_true rfl), (Nat.le_of_ble_eq_true rfl)⟩ ⟨(Nat.le_of_ble_eq_true rfl), (Nat.le_of_ble_eq_true rfl)⟩ dX11_wordOf_308 (fun r35 u9 H locs hp9 hw => ?_)
    obtain ⟨x36, rfl, rfl, hf37⟩ := hp9
    have hw : Wd G s A [] H _ := hw
    exact x_retlQ hQ B hw ⟨r35, rfl, rfl, (by omega)⟩ (Nat.le_of_ble_eq_true rfl) (Nat.le_of_ble_eq_true rfl) dX11_wordOf_311
  · skip
    have k1 : a1 = 12 := Int32.toInt_inj.mp (by rw [k1]; rfl)
    refine x_topi (z := 12) k1 ?_
    refine lv_tableIn (off := 311) (tgt := 312) C.1 C.2.1 dX11_wordOf_1 (by decide) (by decide) rfl (by decide) ?_
    have ha1_ := congrArg Int32.toInt k1
    have ha1_ : a1.toInt = 12 := ha1_
    refine lv_bipush (v := 111) C.1 C.2.1 dX11_wordOf_312 (by decide) ?_
    refine lv_bipush (v := 118) C.1 C.2.1 dX11_wordOf_314 (by decide) ?_
    refine lv_bipush (v := 101) C.1 C.2.1 dX11_wordOf_316 (by decide) ?_
    refine lv_bipush (v := 114) C.1 C.2.1 dX11_wordOf_318 (by decide) ?_
    refine lv_iconst (v := 0) C.1 C.2.1 dX11_wordOf_320 (by decide) ?_
    refine lv_iconst (v := 0) C.1 C.2.1 dX11_wordOf_321 (by decide) ?_
    refine lv_iconst (v := 0) C.1 C.2.1 dX11_wordOf_322 (by decide) ?_
    refine x_calllS (As := [.int 111, .int 118, .int 101, .int 114, .int 0, .int 0, .int 0]) (rest := []) (wr := []) C hw (s_X11_speltB 111 118 101 114 0 0 0 (by decide) (by decide) (by decide) (by decide) (by decide) (by decide) (by decide) (by have e0 : (101 : Int32).toInt = 101 := rfl; omega) (by have e0 : (114 : Int32).toInt = 114 := rfl; omega) (by have e0 : (0 : Int32).toInt = 0 := rfl; omega) (by have e0 : (0 : Int32).toInt = 0 := rfl; omega) (by have e0 : (0 : Int32).toInt = 0 := rfl; omega)) mwX11_spelt kw1366 [] [] rfl rfl rfl rfl (by decide) rfl hl.1 rfl (Nat.le_of_ble_eq_true rfl) ⟨(Nat.le_of_ble_eq_true rfl), (Nat.le_of_ble_eq_true rfl)⟩ ⟨(Nat.le_of_ble_eq_true rfl), (Nat.le_of_ble_eq_true rfl)⟩ dX11_wordOf_323 (fun r38 u9 H locs hp9 hw => ?_)
    obtain ⟨x39, rfl, rfl, hf40⟩ := hp9
    have hw : Wd G s A [] H _ := hw
    exact x_retlQ hQ B hw ⟨r38, rfl, rfl, (by omega)⟩ (Nat.le_of_ble_eq_true rfl) (Nat.le_of_ble_eq_true rfl) dX11_wordOf_326
  · skip
    have k1 : a1 = 13 := Int32.toInt_inj.mp (by rw [k1]; rfl)
    refine x_topi (z := 13) k1 ?_
    refine lv_tableIn (off := 326) (tgt := 327) C.1 C.2.1 dX11_wordOf_1 (by decide) (by decide) rfl (by decide) ?_
    have ha1_ := congrArg Int32.toInt k1
    have ha1_ : a1.toInt = 13 := ha1_
    refine lv_bipush (v := 115) C.1 C.2.1 dX11_wordOf_327 (by decide) ?_
    refine lv_bipush (v := 99) C.1 C.2.1 dX11_wordOf_329 (by decide) ?_
    refine lv_bipush (v := 114) C.1 C.2.1 dX11_wordOf_331 (by decide) ?_
    refine lv_bipush (v := 97) C.1 C.2.1 dX11_wordOf_333 (by decide) ?_
    refine lv_bipush (v := 116) C.1 C.2.1 dX11_wordOf_335 (by decide) ?_
    refine lv_bipush (v := 99) C.1 C.2.1 dX11_wordOf_337 (by decide) ?_
    refine lv_bipush (v := 104) C.1 C.2.1 dX11_wordOf_339 (by decide) ?_
    refine x_calllS (As := [.int 115, .int 99, .int 114, .int 97, .int 116, .int 99, .int 104]) (rest := []) (wr := []) C hw (s_X11_speltB 115 99 114 97 116 99 104 (by decide) (by decide) (by decide) (by decide) (by decide) (by decide) (by decide) (by have e0 : (114 : Int32).toInt = 114 := rfl; omega) (by have e0 : (97 : Int32).toInt = 97 := rfl; omega) (by have e0 : (116 : Int32).toInt = 116 := rfl; omega) (by have e0 : (99 : Int32).toInt = 99 := rfl; omega) (by have e0 : (104 : Int32).toInt = 104 := rfl; omega)) mwX11_spelt kw1366 [] [] rfl rfl rfl rfl (by decide) rfl hl.1 rfl (Nat.le_of_ble_eq_true rfl) ⟨(Nat.le_of_ble_eq_true rfl), (Nat.le_of_ble_eq_true rfl)⟩ ⟨(Nat.le_of_ble_eq_true rfl), (Nat.le_of_ble_eq_true rfl)⟩ dX11_wordOf_341 (fun r41 u9 H locs hp9 hw => ?_)
    obtain ⟨x42, rfl, rfl, hf43⟩ := hp9
    have hw : Wd G s A [] H _ := hw
    exact x_retlQ hQ B hw ⟨r41, rfl, rfl, (by omega)⟩ (Nat.le_of_ble_eq_true rfl) (Nat.le_of_ble_eq_true rfl) dX11_wordOf_344
  · skip
    have k1 : a1 = 14 := Int32.toInt_inj.mp (by rw [k1]; rfl)
    refine x_topi (z := 14) k1 ?_
    refine lv_tableIn (off := 344) (tgt := 345) C.1 C.2.1 dX11_wordOf_1 (by decide) (by decide) rfl (by decide) ?_
    have ha1_ := congrArg Int32.toInt k1
    have ha1_ : a1.toInt = 14 := ha1_
    refine lv_bipush (v := 115) C.1 C.2.1 dX11_wordOf_345 (by decide) ?_
    refine lv_bipush (v := 105) C.1 C.2.1 dX11_wordOf_347 (by decide) ?_
    refine lv_bipush (v := 116) C.1 C.2.1 dX11_wordOf_349 (by decide) ?_
    refine lv_bipush (v := 115) C.1 C.2.1 dX11_wordOf_351 (by decide) ?_
    refine lv_iconst (v := 0) C.1 C.2.1 dX11_wordOf_353 (by decide) ?_
    refine lv_iconst (v := 0) C.1 C.2.1 dX11_wordOf_354 (by decide) ?_
    refine lv_iconst (v := 0) C.1 C.2.1 dX11_wordOf_355 (by decide) ?_
    refine x_calllS (As := [.int 115, .int 105, .int 116, .int 115, .int 0, .int 0, .int 0]) (rest := []) (wr := []) C hw (s_X11_speltB 115 105 116 115 0 0 0 (by decide) (by decide) (by decide) (by decide) (by decide) (by decide) (by decide) (by have e0 : (116 : Int32).toInt = 116 := rfl; omega) (by have e0 : (115 : Int32).toInt = 115 := rfl; omega) (by have e0 : (0 : Int32).toInt = 0 := rfl; omega) (by have e0 : (0 : Int32).toInt = 0 := rfl; omega) (by have e0 : (0 : Int32).toInt = 0 := rfl; omega)) mwX11_spelt kw1366 [] [] rfl rfl rfl rfl (by decide) rfl hl.1 rfl (Nat.le_of_ble_eq_true rfl) ⟨(Nat.le_of_ble_eq_true rfl), (Nat.le_of_ble_eq_true rfl)⟩ ⟨(Nat.le_of_ble_eq_true rfl), (Nat.le_of_ble_eq_true rfl)⟩ dX11_wordOf_356 (fun r44 u9 H locs hp9 hw => ?_)
    obtain ⟨x45, rfl, rfl, hf46⟩ := hp9
    have hw : Wd G s A [] H _ := hw
    exact x_retlQ hQ B hw ⟨r44, rfl, rfl, (by omega)⟩ (Nat.le_of_ble_eq_true rfl) (Nat.le_of_ble_eq_true rfl) dX11_wordOf_359
  · skip
    have k1 : a1 = 15 := Int32.toInt_inj.mp (by rw [k1]; rfl)
    refine x_topi (z := 15) k1 ?_
    refine lv_tableIn (off := 359) (tgt := 360) C.1 C.2.1 dX11_wordOf_1 (by decide) (by decide) rfl (by decide) ?_
    have ha1_ := congrArg Int32.toInt k1
    have ha1_ : a1.toInt = 15 := ha1_
    refine lv_bipush (v := 104) C.1 C.2.1 dX11_wordOf_360 (by decide) ?_
    refine lv_bipush (v := 111) C.1 C.2.1 dX11_wordOf_362 (by decide) ?_
    refine lv_bipush (v := 117) C.1 C.2.1 dX11_wordOf_364 (by decide) ?_
    refine lv_bipush (v := 114) C.1 C.2.1 dX11_wordOf_366 (by decide) ?_
    refine lv_iconst (v := 0) C.1 C.2.1 dX11_wordOf_368 (by decide) ?_
    refine lv_iconst (v := 0) C.1 C.2.1 dX11_wordOf_369 (by decide) ?_
    refine lv_iconst (v := 0) C.1 C.2.1 dX11_wordOf_370 (by decide) ?_
    refine x_calllS (As := [.int 104, .int 111, .int 117, .int 114, .int 0, .int 0, .int 0]) (rest := []) (wr := []) C hw (s_X11_speltB 104 111 117 114 0 0 0 (by decide) (by decide) (by decide) (by decide) (by decide) (by decide) (by decide) (by have e0 : (117 : Int32).toInt = 117 := rfl; omega) (by have e0 : (114 : Int32).toInt = 114 := rfl; omega) (by have e0 : (0 : Int32).toInt = 0 := rfl; omega) (by have e0 : (0 : Int32).toInt = 0 := rfl; omega) (by have e0 : (0 : Int32).toInt = 0 := rfl; omega)) mwX11_spelt kw1366 [] [] rfl rfl rfl rfl (by decide) rfl hl.1 rfl (Nat.le_of_ble_eq_true rfl) ⟨(Nat.le_of_ble_eq_true rfl), (Nat.le_of_ble_eq_true rfl)⟩ ⟨(Nat.le_of_ble_eq_true rfl), (Nat.le_of_ble_eq_true rfl)⟩ dX11_wordOf_371 (fun r47 u9 H locs hp9 hw => ?_)
    obtain ⟨x48, rfl, rfl, hf49⟩ := hp9
    have hw : Wd G s A [] H _ := hw
    exact x_retlQ hQ B hw ⟨r47, rfl, rfl, (by omega)⟩ (Nat.le_of_ble_eq_true rfl) (Nat.le_of_ble_eq_true rfl) dX11_wordOf_374
  · skip
    have k1 : a1 = 16 := Int32.toInt_inj.mp (by rw [k1]; rfl)
    refine x_topi (z := 16) k1 ?_
    refine lv_tableIn (off := 374) (tgt := 375) C.1 C.2.1 dX11_wordOf_1 (by decide) (by decide) rfl (by decide) ?_
    have ha1_ := congrArg Int32.toInt k1
    have ha1_ : a1.toInt = 16 := ha1_
    refine lv_bipush (v := 111) C.1 C.2.1 dX11_wordOf_375 (by decide) ?_
    refine lv_bipush (v := 114) C.1 C.2.1 dX11_wordOf_377 (by decide) ?_
    refine lv_iconst (v := 0) C.1 C.2.1 dX11_wordOf_379 (by decide) ?_
    refine lv_iconst (v := 0) C.1 C.2.1 dX11_wordOf_380 (by decide) ?_
    refine lv_iconst (v := 0) C.1 C.2.1 dX11_wordOf_381 (by decide) ?_
    refine lv_iconst (v := 0) C.1 C.2.1 dX11_wordOf_382 (by decide) ?_
    refine lv_iconst (v := 0) C.1 C.2.1 dX11_wordOf_383 (by decide) ?_
    refine x_calllS (As := [.int 111, .int 114, .int 0, .int 0, .int 0, .int 0, .int 0]) (rest := []) (wr := []) C hw (s_X11_speltB 111 114 0 0 0 0 0 (by decide) (by decide) (by decide) (by decide) (by decide) (by decide) (by decide) (by have e0 : (0 : Int32).toInt = 0 := rfl; omega) (by have e0 : (0 : Int32).toInt = 0 := rfl; omega) (by have e0 : (0 : Int32).toInt = 0 := rfl; omega) (by have e0 : (0 : Int32).toInt = 0 := rfl; omega) (by have e0 : (0 : Int32).toInt = 0 := rfl; omega)) mwX11_spelt kw1366 [] [] rfl rfl rfl rfl (by decide) rfl hl.1 rfl (Nat.le_of_ble_eq_true rfl) ⟨(Nat.le_of_ble_eq_true rfl), (Nat.le_of_ble_eq_true rfl)⟩ ⟨(Nat.le_of_ble_eq_true rfl), (Nat.le_of_ble_eq_true rfl)⟩ dX11_wordOf_384 (fun r50 u9 H locs hp9 hw => ?_)
    obtain ⟨x51, rfl, rfl, hf52⟩ := hp9
    have hw : Wd G s A [] H _ := hw
    exact x_retlQ hQ B hw ⟨r50, rfl, rfl, (by omega)⟩ (Nat.le_of_ble_eq_true rfl) (Nat.le_of_ble_eq_true rfl) dX11_wordOf_387
  · skip
    have k1 : a1 = 17 := Int32.toInt_inj.mp (by rw [k1]; rfl)
    refine x_topi (z := 17) k1 ?_
    refine lv_tableIn (off := 387) (tgt := 388) C.1 C.2.1 dX11_wordOf_1 (by decide) (by decide) rfl (by decide) ?_
    have ha1_ := congrArg Int32.toInt k1
    have ha1_ : a1.toInt = 17 := ha1_
    refine lv_bipush (v := 97) C.1 C.2.1 dX11_wordOf_388 (by decide) ?_
    refine lv_bipush (v := 110) C.1 C.2.1 dX11_wordOf_390 (by decide) ?_
    refine lv_bipush (v := 100) C.1 C.2.1 dX11_wordOf_392 (by decide) ?_
    refine lv_iconst (v := 0) C.1 C.2.1 dX11_wordOf_394 (by decide) ?_
    refine lv_iconst (v := 0) C.1 C.2.1 dX11_wordOf_395 (by decide) ?_
    refine lv_iconst (v := 0) C.1 C.2.1 dX11_wordOf_396 (by decide) ?_
    refine lv_iconst (v := 0) C.1 C.2.1 dX11_wordOf_397 (by decide) ?_
    refine x_calllS (As := [.int 97, .int 110, .int 100, .int 0, .int 0, .int 0, .int 0]) (rest := []) (wr := []) C hw (s_X11_speltB 97 110 100 0 0 0 0 (by decide) (by decide) (by decide) (by decide) (by decide) (by decide) (by decide) (by have e0 : (100 : Int32).toInt = 100 := rfl; omega) (by have e0 : (0 : Int32).toInt = 0 := rfl; omega) (by have e0 : (0 : Int32).toInt = 0 := rfl; omega) (by have e0 : (0 : Int32).toInt = 0 := rfl; omega) (by have e0 : (0 : Int32).toInt = 0 := rfl; omega)) mwX11_spelt kw1366 [] [] rfl rfl rfl rfl (by decide) rfl hl.1 rfl (Nat.le_of_ble_eq_true rfl) ⟨(Nat.le_of_ble_eq_true rfl), (Nat.le_of_ble_eq_true rfl)⟩ ⟨(Nat.le_of_ble_eq_true rfl), (Nat.le_of_ble_eq_true rfl)⟩ dX11_wordOf_398 (fun r53 u9 H locs hp9 hw => ?_)
    obtain ⟨x54, rfl, rfl, hf55⟩ := hp9
    have hw : Wd G s A [] H _ := hw
    exact x_retlQ hQ B hw ⟨r53, rfl, rfl, (by omega)⟩ (Nat.le_of_ble_eq_true rfl) (Nat.le_of_ble_eq_true rfl) dX11_wordOf_401
  · skip
    have k1 : a1 = 18 := Int32.toInt_inj.mp (by rw [k1]; rfl)
    refine x_topi (z := 18) k1 ?_
    refine lv_tableIn (off := 401) (tgt := 402) C.1 C.2.1 dX11_wordOf_1 (by decide) (by decide) rfl (by decide) ?_
    have ha1_ := congrArg Int32.toInt k1
    have ha1_ : a1.toInt = 18 := ha1_
    refine lv_bipush (v := 110) C.1 C.2.1 dX11_wordOf_402 (by decide) ?_
    refine lv_bipush (v := 111) C.1 C.2.1 dX11_wordOf_404 (by decide) ?_
    refine lv_bipush (v := 116) C.1 C.2.1 dX11_wordOf_406 (by decide) ?_
    refine lv_iconst (v := 0) C.1 C.2.1 dX11_wordOf_408 (by decide) ?_
    refine lv_iconst (v := 0) C.1 C.2.1 dX11_wordOf_409 (by decide) ?_
    refine lv_iconst (v := 0) C.1 C.2.1 dX11_wordOf_410 (by decide) ?_
    refine lv_iconst (v := 0) C.1 C.2.1 dX11_wordOf_411 (by decide) ?_
    refine x_calllS (As := [.int 110, .int 111, .int 116, .int 0, .int 0, .int 0, .int 0]) (rest := []) (wr := []) C hw (s_X11_speltB 110 111 116 0 0 0 0 (by decide) (by decide) (by decide) (by decide) (by decide) (by decide) (by decide) (by have e0 : (116 : Int32).toInt = 116 := rfl; omega) (by have e0 : (0 : Int32).toInt = 0 := rfl; omega) (by have e0 : (0 : Int32).toInt = 0 := rfl; omega) (by have e0 : (0 : Int32).toInt = 0 := rfl; omega) (by have e0 : (0 : Int32).toInt = 0 := rfl; omega)) mwX11_spelt kw1366 [] [] rfl rfl rfl rfl (by decide) rfl hl.1 rfl (Nat.le_of_ble_eq_true rfl) ⟨(Nat.le_of_ble_eq_true rfl), (Nat.le_of_ble_eq_true rfl)⟩ ⟨(Nat.le_of_ble_eq_true rfl), (Nat.le_of_ble_eq_true rfl)⟩ dX11_wordOf_412 (fun r56 u9 H locs hp9 hw => ?_)
    obtain ⟨x57, rfl, rfl, hf58⟩ := hp9
    have hw : Wd G s A [] H _ := hw
    exact x_retlQ hQ B hw ⟨r56, rfl, rfl, (by omega)⟩ (Nat.le_of_ble_eq_true rfl) (Nat.le_of_ble_eq_true rfl) dX11_wordOf_415
  · skip
    have k1 : a1 = 19 := Int32.toInt_inj.mp (by rw [k1]; rfl)
    refine x_topi (z := 19) k1 ?_
    refine lv_tableIn (off := 415) (tgt := 416) C.1 C.2.1 dX11_wordOf_1 (by decide) (by decide) rfl (by decide) ?_
    have ha1_ := congrArg Int32.toInt k1
    have ha1_ : a1.toInt = 19 := ha1_
    refine lv_bipush (v := 115) C.1 C.2.1 dX11_wordOf_416 (by decide) ?_
    refine lv_bipush (v := 111) C.1 C.2.1 dX11_wordOf_418 (by decide) ?_
    refine lv_iconst (v := 0) C.1 C.2.1 dX11_wordOf_420 (by decide) ?_
    refine lv_iconst (v := 0) C.1 C.2.1 dX11_wordOf_421 (by decide) ?_
    refine lv_iconst (v := 0) C.1 C.2.1 dX11_wordOf_422 (by decide) ?_
    refine lv_iconst (v := 0) C.1 C.2.1 dX11_wordOf_423 (by decide) ?_
    refine lv_iconst (v := 0) C.1 C.2.1 dX11_wordOf_424 (by decide) ?_
    refine x_calllS (As := [.int 115, .int 111, .int 0, .int 0, .int 0, .int 0, .int 0]) (rest := []) (wr := []) C hw (s_X11_speltB 115 111 0 0 0 0 0 (by decide) (by decide) (by decide) (by decide) (by decide) (by decide) (by decide) (by have e0 : (0 : Int32).toInt = 0 := rfl; omega) (by have e0 : (0 : Int32).toInt = 0 := rfl; omega) (by have e0 : (0 : Int32).toInt = 0 := rfl; omega) (by have e0 : (0 : Int32).toInt = 0 := rfl; omega) (by have e0 : (0 : Int32).toInt = 0 := rfl; omega)) mwX11_spelt kw1366 [] [] rfl rfl rfl rfl (by decide) rfl hl.1 rfl (Nat.le_of_ble_eq_true rfl) ⟨(Nat.le_of_ble_eq_true rfl), (Nat.le_of_ble_eq_true rfl)⟩ ⟨(Nat.le_of_ble_eq_true rfl), (Nat.le_of_ble_eq_true rfl)⟩ dX11_wordOf_425 (fun r59 u9 H locs hp9 hw => ?_)
    obtain ⟨x60, rfl, rfl, hf61⟩ := hp9
    have hw : Wd G s A [] H _ := hw
    exact x_retlQ hQ B hw ⟨r59, rfl, rfl, (by omega)⟩ (Nat.le_of_ble_eq_true rfl) (Nat.le_of_ble_eq_true rfl) dX11_wordOf_428
  · skip
    have k1 : a1 = 20 := Int32.toInt_inj.mp (by rw [k1]; rfl)
    refine x_topi (z := 20) k1 ?_
    refine lv_tableIn (off := 428) (tgt := 429) C.1 C.2.1 dX11_wordOf_1 (by decide) (by decide) rfl (by decide) ?_
    have ha1_ := congrArg Int32.toInt k1
    have ha1_ : a1.toInt = 20 := ha1_
    refine lv_bipush (v := 99) C.1 C.2.1 dX11_wordOf_429 (by decide) ?_
    refine lv_bipush (v := 114) C.1 C.2.1 dX11_wordOf_431 (by decide) ?_
    refine lv_bipush (v := 97) C.1 C.2.1 dX11_wordOf_433 (by decide) ?_
    refine lv_bipush (v := 99) C.1 C.2.1 dX11_wordOf_435 (by decide) ?_
    refine lv_bipush (v := 107) C.1 C.2.1 dX11_wordOf_437 (by decide) ?_
    refine lv_bipush (v := 101) C.1 C.2.1 dX11_wordOf_439 (by decide) ?_
    refine lv_bipush (v := 100) C.1 C.2.1 dX11_wordOf_441 (by decide) ?_
    refine x_calllS (As := [.int 99, .int 114, .int 97, .int 99, .int 107, .int 101, .int 100]) (rest := []) (wr := []) C hw (s_X11_speltB 99 114 97 99 107 101 100 (by decide) (by decide) (by decide) (by decide) (by decide) (by decide) (by decide) (by have e0 : (97 : Int32).toInt = 97 := rfl; omega) (by have e0 : (99 : Int32).toInt = 99 := rfl; omega) (by have e0 : (107 : Int32).toInt = 107 := rfl; omega) (by have e0 : (101 : Int32).toInt = 101 := rfl; omega) (by have e0 : (100 : Int32).toInt = 100 := rfl; omega)) mwX11_spelt kw1366 [] [] rfl rfl rfl rfl (by decide) rfl hl.1 rfl (Nat.le_of_ble_eq_true rfl) ⟨(Nat.le_of_ble_eq_true rfl), (Nat.le_of_ble_eq_true rfl)⟩ ⟨(Nat.le_of_ble_eq_true rfl), (Nat.le_of_ble_eq_true rfl)⟩ dX11_wordOf_443 (fun r62 u9 H locs hp9 hw => ?_)
    obtain ⟨x63, rfl, rfl, hf64⟩ := hp9
    have hw : Wd G s A [] H _ := hw
    exact x_retlQ hQ B hw ⟨r62, rfl, rfl, (by omega)⟩ (Nat.le_of_ble_eq_true rfl) (Nat.le_of_ble_eq_true rfl) dX11_wordOf_446
  · skip
    have k1 : a1 = 21 := Int32.toInt_inj.mp (by rw [k1]; rfl)
    refine x_topi (z := 21) k1 ?_
    refine lv_tableIn (off := 446) (tgt := 447) C.1 C.2.1 dX11_wordOf_1 (by decide) (by decide) rfl (by decide) ?_
    have ha1_ := congrArg Int32.toInt k1
    have ha1_ : a1.toInt = 21 := ha1_
    refine lv_bipush (v := 101) C.1 C.2.1 dX11_wordOf_447 (by decide) ?_
    refine lv_bipush (v := 118) C.1 C.2.1 dX11_wordOf_449 (by decide) ?_
    refine lv_bipush (v := 101) C.1 C.2.1 dX11_wordOf_451 (by decide) ?_
    refine lv_bipush (v := 110) C.1 C.2.1 dX11_wordOf_453 (by decide) ?_
    refine lv_iconst (v := 0) C.1 C.2.1 dX11_wordOf_455 (by decide) ?_
    refine lv_iconst (v := 0) C.1 C.2.1 dX11_wordOf_456 (by decide) ?_
    refine lv_iconst (v := 0) C.1 C.2.1 dX11_wordOf_457 (by decide) ?_
    refine x_calllS (As := [.int 101, .int 118, .int 101, .int 110, .int 0, .int 0, .int 0]) (rest := []) (wr := []) C hw (s_X11_speltB 101 118 101 110 0 0 0 (by decide) (by decide) (by decide) (by decide) (by decide) (by decide) (by decide) (by have e0 : (101 : Int32).toInt = 101 := rfl; omega) (by have e0 : (110 : Int32).toInt = 110 := rfl; omega) (by have e0 : (0 : Int32).toInt = 0 := rfl; omega) (by have e0 : (0 : Int32).toInt = 0 := rfl; omega) (by have e0 : (0 : Int32).toInt = 0 := rfl; omega)) mwX11_spelt kw1366 [] [] rfl rfl rfl rfl (by decide) rfl hl.1 rfl (Nat.le_of_ble_eq_true rfl) ⟨(Nat.le_of_ble_eq_true rfl), (Nat.le_of_ble_eq_true rfl)⟩ ⟨(Nat.le_of_ble_eq_true rfl), (Nat.le_of_ble_eq_true rfl)⟩ dX11_wordOf_458 (fun r65 u9 H locs hp9 hw => ?_)
    obtain ⟨x66, rfl, rfl, hf67⟩ := hp9
    have hw : Wd G s A [] H _ := hw
    exact x_retlQ hQ B hw ⟨r65, rfl, rfl, (by omega)⟩ (Nat.le_of_ble_eq_true rfl) (Nat.le_of_ble_eq_true rfl) dX11_wordOf_461
  · skip
    have k1 : a1 = 22 := Int32.toInt_inj.mp (by rw [k1]; rfl)
    refine x_topi (z := 22) k1 ?_
    refine lv_tableIn (off := 461) (tgt := 462) C.1 C.2.1 dX11_wordOf_1 (by decide) (by decide) rfl (by decide) ?_
    have ha1_ := congrArg Int32.toInt k1
    have ha1_ : a1.toInt = 22 := ha1_
    refine lv_bipush (v := 108) C.1 C.2.1 dX11_wordOf_462 (by decide) ?_
    refine lv_bipush (v := 105) C.1 C.2.1 dX11_wordOf_464 (by decide) ?_
    refine lv_bipush (v := 107) C.1 C.2.1 dX11_wordOf_466 (by decide) ?_
    refine lv_bipush (v := 101) C.1 C.2.1 dX11_wordOf_468 (by decide) ?_
    refine lv_iconst (v := 0) C.1 C.2.1 dX11_wordOf_470 (by decide) ?_
    refine lv_iconst (v := 0) C.1 C.2.1 dX11_wordOf_471 (by decide) ?_
    refine lv_iconst (v := 0) C.1 C.2.1 dX11_wordOf_472 (by decide) ?_
    refine x_calllS (As := [.int 108, .int 105, .int 107, .int 101, .int 0, .int 0, .int 0]) (rest := []) (wr := []) C hw (s_X11_speltB 108 105 107 101 0 0 0 (by decide) (by decide) (by decide) (by decide) (by decide) (by decide) (by decide) (by have e0 : (107 : Int32).toInt = 107 := rfl; omega) (by have e0 : (101 : Int32).toInt = 101 := rfl; omega) (by have e0 : (0 : Int32).toInt = 0 := rfl; omega) (by have e0 : (0 : Int32).toInt = 0 := rfl; omega) (by have e0 : (0 : Int32).toInt = 0 := rfl; omega)) mwX11_spelt kw1366 [] [] rfl rfl rfl rfl (by decide) rfl hl.1 rfl (Nat.le_of_ble_eq_true rfl) ⟨(Nat.le_of_ble_eq_true rfl), (Nat.le_of_ble_eq_true rfl)⟩ ⟨(Nat.le_of_ble_eq_true rfl), (Nat.le_of_ble_eq_true rfl)⟩ dX11_wordOf_473 (fun r68 u9 H locs hp9 hw => ?_)
    obtain ⟨x69, rfl, rfl, hf70⟩ := hp9
    have hw : Wd G s A [] H _ := hw
    exact x_retlQ hQ B hw ⟨r68, rfl, rfl, (by omega)⟩ (Nat.le_of_ble_eq_true rfl) (Nat.le_of_ble_eq_true rfl) dX11_wordOf_476
  · skip
    have k1 : a1 = 23 := Int32.toInt_inj.mp (by rw [k1]; rfl)
    refine x_topi (z := 23) k1 ?_
    refine lv_tableIn (off := 476) (tgt := 477) C.1 C.2.1 dX11_wordOf_1 (by decide) (by decide) rfl (by decide) ?_
    have ha1_ := congrArg Int32.toInt k1
    have ha1_ : a1.toInt = 23 := ha1_
    refine lv_bipush (v := 108) C.1 C.2.1 dX11_wordOf_477 (by decide) ?_
    refine lv_bipush (v := 105) C.1 C.2.1 dX11_wordOf_479 (by decide) ?_
    refine lv_bipush (v := 103) C.1 C.2.1 dX11_wordOf_481 (by decide) ?_
    refine lv_bipush (v := 104) C.1 C.2.1 dX11_wordOf_483 (by decide) ?_
    refine lv_bipush (v := 116) C.1 C.2.1 dX11_wordOf_485 (by decide) ?_
    refine lv_iconst (v := 0) C.1 C.2.1 dX11_wordOf_487 (by decide) ?_
    refine lv_iconst (v := 0) C.1 C.2.1 dX11_wordOf_488 (by decide) ?_
    refine x_calllS (As := [.int 108, .int 105, .int 103, .int 104, .int 116, .int 0, .int 0]) (rest := []) (wr := []) C hw (s_X11_speltB 108 105 103 104 116 0 0 (by decide) (by decide) (by decide) (by decide) (by decide) (by decide) (by decide) (by have e0 : (103 : Int32).toInt = 103 := rfl; omega) (by have e0 : (104 : Int32).toInt = 104 := rfl; omega) (by have e0 : (116 : Int32).toInt = 116 := rfl; omega) (by have e0 : (0 : Int32).toInt = 0 := rfl; omega) (by have e0 : (0 : Int32).toInt = 0 := rfl; omega)) mwX11_spelt kw1366 [] [] rfl rfl rfl rfl (by decide) rfl hl.1 rfl (Nat.le_of_ble_eq_true rfl) ⟨(Nat.le_of_ble_eq_true rfl), (Nat.le_of_ble_eq_true rfl)⟩ ⟨(Nat.le_of_ble_eq_true rfl), (Nat.le_of_ble_eq_true rfl)⟩ dX11_wordOf_489 (fun r71 u9 H locs hp9 hw => ?_)
    obtain ⟨x72, rfl, rfl, hf73⟩ := hp9
    have hw : Wd G s A [] H _ := hw
    exact x_retlQ hQ B hw ⟨r71, rfl, rfl, (by omega)⟩ (Nat.le_of_ble_eq_true rfl) (Nat.le_of_ble_eq_true rfl) dX11_wordOf_492
  · skip
    have k1 : a1 = 24 := Int32.toInt_inj.mp (by rw [k1]; rfl)
    refine x_topi (z := 24) k1 ?_
    refine lv_tableIn (off := 492) (tgt := 493) C.1 C.2.1 dX11_wordOf_1 (by decide) (by decide) rfl (by decide) ?_
    have ha1_ := congrArg Int32.toInt k1
    have ha1_ : a1.toInt = 24 := ha1_
    refine lv_bipush (v := 104) C.1 C.2.1 dX11_wordOf_493 (by decide) ?_
    refine lv_bipush (v := 101) C.1 C.2.1 dX11_wordOf_495 (by decide) ?_
    refine lv_bipush (v := 97) C.1 C.2.1 dX11_wordOf_497 (by decide) ?_
    refine lv_bipush (v := 116) C.1 C.2.1 dX11_wordOf_499 (by decide) ?_
    refine lv_iconst (v := 0) C.1 C.2.1 dX11_wordOf_501 (by decide) ?_
    refine lv_iconst (v := 0) C.1 C.2.1 dX11_wordOf_502 (by decide) ?_
    refine lv_iconst (v := 0) C.1 C.2.1 dX11_wordOf_503 (by decide) ?_
    refine x_calllS (As := [.int 104, .int 101, .int 97, .int 116, .int 0, .int 0, .int 0]) (rest := []) (wr := []) C hw (s_X11_speltB 104 101 97 116 0 0 0 (by decide) (by decide) (by decide) (by decide) (by decide) (by decide) (by decide) (by have e0 : (97 : Int32).toInt = 97 := rfl; omega) (by have e0 : (116 : Int32).toInt = 116 := rfl; omega) (by have e0 : (0 : Int32).toInt = 0 := rfl; omega) (by have e0 : (0 : Int32).toInt = 0 := rfl; omega) (by have e0 : (0 : Int32).toInt = 0 := rfl; omega)) mwX11_spelt kw1366 [] [] rfl rfl rfl rfl (by decide) rfl hl.1 rfl (Nat.le_of_ble_eq_true rfl) ⟨(Nat.le_of_ble_eq_true rfl), (Nat.le_of_ble_eq_true rfl)⟩ ⟨(Nat.le_of_ble_eq_true rfl), (Nat.le_of_ble_eq_true rfl)⟩ dX11_wordOf_504 (fun r74 u9 H locs hp9 hw => ?_)
    obtain ⟨x75, rfl, rfl, hf76⟩ := hp9
    have hw : Wd G s A [] H _ := hw
    exact x_retlQ hQ B hw ⟨r74, rfl, rfl, (by omega)⟩ (Nat.le_of_ble_eq_true rfl) (Nat.le_of_ble_eq_true rfl) dX11_wordOf_507
  · skip
    have k1 : a1 = 25 := Int32.toInt_inj.mp (by rw [k1]; rfl)
    refine x_topi (z := 25) k1 ?_
    refine lv_tableIn (off := 507) (tgt := 508) C.1 C.2.1 dX11_wordOf_1 (by decide) (by decide) rfl (by decide) ?_
    have ha1_ := congrArg Int32.toInt k1
    have ha1_ : a1.toInt = 25 := ha1_
    refine lv_bipush (v := 115) C.1 C.2.1 dX11_wordOf_508 (by decide) ?_
    refine lv_bipush (v := 105) C.1 C.2.1 dX11_wordOf_510 (by decide) ?_
    refine lv_bipush (v := 103) C.1 C.2.1 dX11_wordOf_512 (by decide) ?_
    refine lv_bipush (v := 104) C.1 C.2.1 dX11_wordOf_514 (by decide) ?_
    refine lv_bipush (v := 115) C.1 C.2.1 dX11_wordOf_516 (by decide) ?_
    refine lv_iconst (v := 0) C.1 C.2.1 dX11_wordOf_518 (by decide) ?_
    refine lv_iconst (v := 0) C.1 C.2.1 dX11_wordOf_519 (by decide) ?_
    refine x_calllS (As := [.int 115, .int 105, .int 103, .int 104, .int 115, .int 0, .int 0]) (rest := []) (wr := []) C hw (s_X11_speltB 115 105 103 104 115 0 0 (by decide) (by decide) (by decide) (by decide) (by decide) (by decide) (by decide) (by have e0 : (103 : Int32).toInt = 103 := rfl; omega) (by have e0 : (104 : Int32).toInt = 104 := rfl; omega) (by have e0 : (115 : Int32).toInt = 115 := rfl; omega) (by have e0 : (0 : Int32).toInt = 0 := rfl; omega) (by have e0 : (0 : Int32).toInt = 0 := rfl; omega)) mwX11_spelt kw1366 [] [] rfl rfl rfl rfl (by decide) rfl hl.1 rfl (Nat.le_of_ble_eq_true rfl) ⟨(Nat.le_of_ble_eq_true rfl), (Nat.le_of_ble_eq_true rfl)⟩ ⟨(Nat.le_of_ble_eq_true rfl), (Nat.le_of_ble_eq_true rfl)⟩ dX11_wordOf_520 (fun r77 u9 H locs hp9 hw => ?_)
    obtain ⟨x78, rfl, rfl, hf79⟩ := hp9
    have hw : Wd G s A [] H _ := hw
    exact x_retlQ hQ B hw ⟨r77, rfl, rfl, (by omega)⟩ (Nat.le_of_ble_eq_true rfl) (Nat.le_of_ble_eq_true rfl) dX11_wordOf_523
  · skip
    refine lv_tableOut (tgt := 524) C.1 C.2.1 dX11_wordOf_1 (by omega) (by decide) ?_
    refine lv_bipush (v := 110) C.1 C.2.1 dX11_wordOf_524 (by decide) ?_
    refine lv_bipush (v := 117) C.1 C.2.1 dX11_wordOf_526 (by decide) ?_
    refine lv_bipush (v := 109) C.1 C.2.1 dX11_wordOf_528 (by decide) ?_
    refine lv_bipush (v := 98) C.1 C.2.1 dX11_wordOf_530 (by decide) ?_
    refine lv_bipush (v := 101) C.1 C.2.1 dX11_wordOf_532 (by decide) ?_
    refine lv_bipush (v := 114) C.1 C.2.1 dX11_wordOf_534 (by decide) ?_
    refine lv_iconst (v := 0) C.1 C.2.1 dX11_wordOf_536 (by decide) ?_
    refine x_calllS (As := [.int 110, .int 117, .int 109, .int 98, .int 101, .int 114, .int 0]) (rest := []) (wr := []) C hw (s_X11_speltB 110 117 109 98 101 114 0 (by decide) (by decide) (by decide) (by decide) (by decide) (by decide) (by decide) (by have e0 : (109 : Int32).toInt = 109 := rfl; omega) (by have e0 : (98 : Int32).toInt = 98 := rfl; omega) (by have e0 : (101 : Int32).toInt = 101 := rfl; omega) (by have e0 : (114 : Int32).toInt = 114 := rfl; omega) (by have e0 : (0 : Int32).toInt = 0 := rfl; omega)) mwX11_spelt kw1366 [] [] rfl rfl rfl rfl (by decide) rfl hl.1 rfl (Nat.le_of_ble_eq_true rfl) ⟨(Nat.le_of_ble_eq_true rfl), (Nat.le_of_ble_eq_true rfl)⟩ ⟨(Nat.le_of_ble_eq_true rfl), (Nat.le_of_ble_eq_true rfl)⟩ dX11_wordOf_537 (fun r80 u9 H locs hp9 hw => ?_)
    obtain ⟨x81, rfl, rfl, hf82⟩ := hp9
    have hw : Wd G s A [] H _ := hw
    exact x_retlQ hQ B hw ⟨r80, rfl, rfl, (by omega)⟩ (Nat.le_of_ble_eq_true rfl) (Nat.le_of_ble_eq_true rfl) dX11_wordOf_540
theorem dX11_write_0 : decode cX11_write 0 = .ok (.aload_n 0, 1) := by decide +kernel
theorem dX11_write_1 : decode cX11_write 1 = .ok (.getfield 142, 3) := by decide +kernel
theorem dX11_write_4 : decode cX11_write 4 = .ok (.aload_n 0, 1) := by decide +kernel
theorem dX11_write_5 : decode cX11_write 5 = .ok (.getfield 333, 3) := by decide +kernel
theorem dX11_write_8 : decode cX11_write 8 = .ok (.iload_n 1, 1) := by decide +kernel
theorem dX11_write_9 : decode cX11_write 9 = .ok (.iastore, 1) := by decide +kernel
theorem dX11_write_10 : decode cX11_write 10 = .ok (.aload_n 0, 1) := by decide +kernel
theorem dX11_write_11 : decode cX11_write 11 = .ok (.dup, 1) := by decide +kernel
theorem dX11_write_12 : decode cX11_write 12 = .ok (.getfield 333, 3) := by decide +kernel
theorem dX11_write_15 : decode cX11_write 15 = .ok (.iconst 1, 1) := by decide +kernel
theorem dX11_write_16 : decode cX11_write 16 = .ok (.iadd, 1) := by decide +kernel
theorem dX11_write_17 : decode cX11_write 17 = .ok (.putfield 333, 3) := by decide +kernel
theorem dX11_write_20 : decode cX11_write 20 = .ok (.return_, 1) := by decide +kernel
set_option maxHeartbeats 4000000 in
set_option maxRecDepth 100000 in
theorem s_X11_write {l : Launch} {G : Gc} (qm : Nat) (a1 : Int32) (qm_thrown : Int32) (qm_tape : Nat) (qm_taped : Int32) (qm_size : Int32) (qm_limit : Int32) (qm_to : Int32) (qm_from : Int32) (qm_kind : Int32) (qm_number : Int32) (qm_sign : Int32) (qm_fault : Int32) (qm_place : Int32) (qm_word : Int64) (qm_told : Int32) (qm_now : Nat) (qm_read : Nat) (qm_kept : Nat) (qm_snaps : Nat) (qm_aside : Nat) (qm_name : Nat) (qm_readName : Nat) (qm_keptName : Nat) (qm_isKept : Nat) (qm_onces : Nat) (qm_snapMany : Int32) (qm_order : Nat) (qm_ordered : Nat) (qm_orderMany : Int32) (qm_orderMost : Int32) (qm_passing : Int32) (qm_movedWho : Int32) (qm_scratched : Int32) (qm_text : Nat) (qm_texts : Int32) (qm_seed : Int32) (qm_line : Nat) (qm_written : Nat) (qm_lineMany : Int32) (qm_hasWritten : Int32) (qm_node : Nat) (qm_nodes : Int32) (qm_onesMany : Int32) (qm_within : Int32) (qm_top : Int32) (qm_text_c : Nat → Int32) (hi_qm_texts : 0 ≤ qm_texts.toInt ∧ qm_texts.toInt ≤ 64) (hr_0 : qm_texts.toInt ≤ 63) : Cv l yX11_write cX11_write 2 0 0 0 G [.ref qm, .int a1] [(qm, .inr (10, [.int qm_thrown, .ref qm_tape, .int qm_taped, .int qm_size, .int qm_limit, .int qm_to, .int qm_from, .int qm_kind, .int qm_number, .int qm_sign, .int qm_fault, .int qm_place, .long qm_word, .int qm_told, .ref qm_now, .ref qm_read, .ref qm_kept, .ref qm_snaps, .ref qm_aside, .ref qm_name, .ref qm_readName, .ref qm_keptName, .ref qm_isKept, .ref qm_onces, .int qm_snapMany, .ref qm_order, .ref qm_ordered, .int qm_orderMany, .int qm_orderMost, .int qm_passing, .int qm_movedWho, .int qm_scratched, .ref qm_text, .int qm_texts, .int qm_seed, .ref qm_line, .ref qm_written, .int qm_lineMany, .int qm_hasWritten, .ref qm_node, .int qm_nodes, .int qm_onesMany, .int qm_within, .int qm_top])), (qm_text, eI G 64 qm_text_c)] (fun (u9 : va_W) => ∃ (x0_qm_texts : Int32) (x1_qm_text_c : Nat → Int32), u9 = [(qm, .inr (10, [.int qm_thrown, .ref qm_tape, .int qm_taped, .int qm_size, .int qm_limit, .int qm_to, .int qm_from, .int qm_kind, .int qm_number, .int qm_sign, .int qm_fault, .int qm_place, .long qm_word, .int qm_told, .ref qm_now, .ref qm_read, .ref qm_kept, .ref qm_snaps, .ref qm_aside, .ref qm_name, .ref qm_readName, .ref qm_keptName, .ref qm_isKept, .ref qm_onces, .int qm_snapMany, .ref qm_order, .ref qm_ordered, .int qm_orderMany, .int qm_orderMost, .int qm_passing, .int qm_movedWho, .int qm_scratched, .ref qm_text, .int x0_qm_texts, .int qm_seed, .ref qm_line, .ref qm_written, .int qm_lineMany, .int qm_hasWritten, .ref qm_node, .int qm_nodes, .int qm_onesMany, .int qm_within, .int qm_top])), (qm_text, eI G 64 x1_qm_text_c)] ∧ (1 ≤ x0_qm_texts.toInt ∧ x0_qm_texts.toInt ≤ 64) ∧ (x0_qm_texts.toInt = qm_texts.toInt + 1)) := by
  refine Cv.ofQ (by decide) (Nat.le_of_ble_eq_true rfl) ?_
  intro p e s m below meth c ls A args Q hQ B hw hl
  have C : CallFix p m c cX11_write 2 s args gw "LanternStateModel" := B.1
  have hl : lv_has ls 2 [(0, .ref qm), (1, .int a1)] := hl
  refine lv_aload_n C.1 C.2.1 dX11_write_0 rfl (lv_at hl 0 rfl) ?_
  refine x_get C hw iwX11 10 rfl 0 rfl 32 (by decide) kw1225 rfl dX11_write_1 ?_
  refine lv_aload_n C.1 C.2.1 dX11_write_4 rfl (lv_at hl 0 rfl) ?_
  refine x_get C hw iwX11 10 rfl 0 rfl 33 (by decide) kw1226 rfl dX11_write_5 ?_
  refine lv_iload_n C.1 C.2.1 dX11_write_8 rfl (lv_at hl 1 rfl) ?_
  obtain ⟨g1, eg1⟩ : ∃ z, upd qm_text_c (qm_texts.toNatClampNeg) a1 = z := ⟨_, rfl⟩
  refine x_iast (f' := g1) (w' := [(qm, .inr (10, [.int qm_thrown, .ref qm_tape, .int qm_taped, .int qm_size, .int qm_limit, .int qm_to, .int qm_from, .int qm_kind, .int qm_number, .int qm_sign, .int qm_fault, .int qm_place, .long qm_word, .int qm_told, .ref qm_now, .ref qm_read, .ref qm_kept, .ref qm_snaps, .ref qm_aside, .ref qm_name, .ref qm_readName, .ref qm_keptName, .ref qm_isKept, .ref qm_onces, .int qm_snapMany, .ref qm_order, .ref qm_ordered, .int qm_orderMany, .int qm_orderMost, .int qm_passing, .int qm_movedWho, .int qm_scratched, .ref qm_text, .int qm_texts, .int qm_seed, .ref qm_line, .ref qm_written, .int qm_lineMany, .int qm_hasWritten, .ref qm_node, .int qm_nodes, .int qm_onesMany, .int qm_within, .int qm_top])), (qm_text, eI G 64 g1)]) C hw 1 rfl (i_in (by omega) (by omega)) eg1 rfl dX11_write_9 (fun H locs hw => ?_)
  refine lv_aload_n C.1 C.2.1 dX11_write_10 rfl (lv_at hl 0 rfl) ?_
  refine lv_dup C.1 C.2.1 dX11_write_11 rfl ?_
  refine x_get C hw iwX11 10 rfl 0 rfl 33 (by decide) kw1226 rfl dX11_write_12 ?_
  refine lv_iconst (v := 1) C.1 C.2.1 dX11_write_15 (by decide) ?_
  refine lv_iadd C.1 C.2.1 dX11_write_16 (x_genP (fun z : Int32 => z.toInt = qm_texts.toInt + 1) (i_add (X := qm_texts.toInt) (Y := 1) rfl rfl (by omega) (by omega)) (fun v2 hv2 => ?_))
  refine x_put (w' := [(qm, .inr (10, [.int qm_thrown, .ref qm_tape, .int qm_taped, .int qm_size, .int qm_limit, .int qm_to, .int qm_from, .int qm_kind, .int qm_number, .int qm_sign, .int qm_fault, .int qm_place, .long qm_word, .int qm_told, .ref qm_now, .ref qm_read, .ref qm_kept, .ref qm_snaps, .ref qm_aside, .ref qm_name, .ref qm_readName, .ref qm_keptName, .ref qm_isKept, .ref qm_onces, .int qm_snapMany, .ref qm_order, .ref qm_ordered, .int qm_orderMany, .int qm_orderMost, .int qm_passing, .int qm_movedWho, .int qm_scratched, .ref qm_text, .int v2, .int qm_seed, .ref qm_line, .ref qm_written, .int qm_lineMany, .int qm_hasWritten, .ref qm_node, .int qm_nodes, .int qm_onesMany, .int qm_within, .int qm_top])), (qm_text, eI G 64 g1)]) C hw iwX11 tyX11_ok nmX11 10 rfl 0 rfl 33 (by decide) kw1226 rfl rfl rfl (Nat.le_of_ble_eq_true rfl) rfl dX11_write_17 (fun H locs hw => ?_)
  exact x_retvQ hQ B hw ⟨v2, g1, rfl, (by omega), (by omega)⟩ (Nat.le_of_ble_eq_true rfl) (Nat.le_of_ble_eq_true rfl) dX11_write_20
theorem dX11_writeWord_0 : decode cX11_writeWord 0 = .ok (.lload_n 1, 1) := by decide +kernel
theorem dX11_writeWord_1 : decode cX11_writeWord 1 = .ok (.ldc2_w 54, 3) := by decide +kernel
theorem dX11_writeWord_4 : decode cX11_writeWord 4 = .ok (.lcmp, 1) := by decide +kernel
theorem dX11_writeWord_5 : decode cX11_writeWord 5 = .ok (.ifCond .lt 12, 3) := by decide +kernel
theorem dX11_writeWord_17 : decode cX11_writeWord 17 = .ok (.aload_n 0, 1) := by decide +kernel
theorem dX11_writeWord_18 : decode cX11_writeWord 18 = .ok (.bipush 96, 2) := by decide +kernel
theorem dX11_writeWord_20 : decode cX11_writeWord 20 = .ok (.lload_n 1, 1) := by decide +kernel
theorem dX11_writeWord_21 : decode cX11_writeWord 21 = .ok (.ldc2_w 54, 3) := by decide +kernel
theorem dX11_writeWord_24 : decode cX11_writeWord 24 = .ok (.lrem, 1) := by decide +kernel
theorem dX11_writeWord_25 : decode cX11_writeWord 25 = .ok (.l2i, 1) := by decide +kernel
theorem dX11_writeWord_26 : decode cX11_writeWord 26 = .ok (.iadd, 1) := by decide +kernel
theorem dX11_writeWord_27 : decode cX11_writeWord 27 = .ok (.invokevirtual 340, 3) := by decide +kernel
theorem mwX11_write : MwV yX11_write cX11_write 2 none 1 := ⟨⟨kw1678, kw15, by decide +kernel⟩, kw1677, kS93⟩
theorem dX11_writeWord_30 : decode cX11_writeWord 30 = .ok (.return_, 1) := by decide +kernel
set_option maxHeartbeats 4000000 in
set_option maxRecDepth 100000 in
theorem s_X11_writeWord_1 {l : Launch} {G : Gc} (qm : Nat) (a1 : Int64) (qm_thrown : Int32) (qm_tape : Nat) (qm_taped : Int32) (qm_size : Int32) (qm_limit : Int32) (qm_to : Int32) (qm_from : Int32) (qm_kind : Int32) (qm_number : Int32) (qm_sign : Int32) (qm_fault : Int32) (qm_place : Int32) (qm_word : Int64) (qm_told : Int32) (qm_now : Nat) (qm_read : Nat) (qm_kept : Nat) (qm_snaps : Nat) (qm_aside : Nat) (qm_name : Nat) (qm_readName : Nat) (qm_keptName : Nat) (qm_isKept : Nat) (qm_onces : Nat) (qm_snapMany : Int32) (qm_order : Nat) (qm_ordered : Nat) (qm_orderMany : Int32) (qm_orderMost : Int32) (qm_passing : Int32) (qm_movedWho : Int32) (qm_scratched : Int32) (qm_text : Nat) (qm_texts : Int32) (qm_seed : Int32) (qm_line : Nat) (qm_written : Nat) (qm_lineMany : Int32) (qm_hasWritten : Int32) (qm_node : Nat) (qm_nodes : Int32) (qm_onesMany : Int32) (qm_within : Int32) (qm_top : Int32) (qm_text_c : Nat → Int32) (hi_qm_texts : 0 ≤ qm_texts.toInt ∧ qm_texts.toInt ≤ 64) (hr_0 : a1.toInt < 27) (hr_1 : qm_texts.toInt + 1 ≤ 64) : Cv l yX11_writeWord cX11_writeWord 3 1 0 0 G [.ref qm, .long a1] [(qm, .inr (10, [.int qm_thrown, .ref qm_tape, .int qm_taped, .int qm_size, .int qm_limit, .int qm_to, .int qm_from, .int qm_kind, .int qm_number, .int qm_sign, .int qm_fault, .int qm_place, .long qm_word, .int qm_told, .ref qm_now, .ref qm_read, .ref qm_kept, .ref qm_snaps, .ref qm_aside, .ref qm_name, .ref qm_readName, .ref qm_keptName, .ref qm_isKept, .ref qm_onces, .int qm_snapMany, .ref qm_order, .ref qm_ordered, .int qm_orderMany, .int qm_orderMost, .int qm_passing, .int qm_movedWho, .int qm_scratched, .ref qm_text, .int qm_texts, .int qm_seed, .ref qm_line, .ref qm_written, .int qm_lineMany, .int qm_hasWritten, .ref qm_node, .int qm_nodes, .int qm_onesMany, .int qm_within, .int qm_top])), (qm_text, eI G 64 qm_text_c)] (fun (u9 : va_W) => ∃ (x0_qm_texts : Int32) (x1_qm_text_c : Nat → Int32), u9 = [(qm, .inr (10, [.int qm_thrown, .ref qm_tape, .int qm_taped, .int qm_size, .int qm_limit, .int qm_to, .int qm_from, .int qm_kind, .int qm_number, .int qm_sign, .int qm_fault, .int qm_place, .long qm_word, .int qm_told, .ref qm_now, .ref qm_read, .ref qm_kept, .ref qm_snaps, .ref qm_aside, .ref qm_name, .ref qm_readName, .ref qm_keptName, .ref qm_isKept, .ref qm_onces, .int qm_snapMany, .ref qm_order, .ref qm_ordered, .int qm_orderMany, .int qm_orderMost, .int qm_passing, .int qm_movedWho, .int qm_scratched, .ref qm_text, .int x0_qm_texts, .int qm_seed, .ref qm_line, .ref qm_written, .int qm_lineMany, .int qm_hasWritten, .ref qm_node, .int qm_nodes, .int qm_onesMany, .int qm_within, .int qm_top])), (qm_text, eI G 64 x1_qm_text_c)] ∧ (1 ≤ x0_qm_texts.toInt ∧ x0_qm_texts.toInt ≤ 64) ∧ (qm_texts.toInt ≤ x0_qm_texts.toInt ∧ x0_qm_texts.toInt ≤ qm_texts.toInt + 1)) := by
  refine Cv.ofQ (by decide) (Nat.le_of_ble_eq_true rfl) ?_
  intro p e s m below meth c ls A args Q hQ B hw hl
  have C : CallFix p m c cX11_writeWord 3 s args gw "LanternStateModel" := B.1
  have hl : lv_has ls 3 [(0, .ref qm), (1, .long a1)] := hl
  refine lv_lload_n C.1 C.2.1 dX11_writeWord_0 rfl (lv_at hl 1 rfl) ?_
  refine lv_ldc2 (v := 27) C.1 C.2.1 C.2.2.2.1 (C.2.2.2.2 _ kw1353) dX11_writeWord_1 ?_
  refine W.lcmp C.1 C.2.1 dX11_writeWord_4 (x_genP (fun z : Int32 => 0 ≤ z.toInt ↔ 27 ≤ a1.toInt) (l_cmp rfl rfl) (fun v1 hv1 => ?_))
  refine lv_if_lt (tgt := 17) C.1 C.2.1 dX11_writeWord_5 (by decide) (fun c2 => ?_) (fun c2 => ?_)
  · skip
    have c2 : v1.toInt < 0 := i_ltT (X := v1.toInt) (Y := 0) rfl rfl c2
    have bc2_v1 := i_bd v1
    refine lv_aload_n C.1 C.2.1 dX11_writeWord_17 rfl (lv_at hl 0 rfl) ?_
    refine lv_bipush (v := 96) C.1 C.2.1 dX11_writeWord_18 (by decide) ?_
    refine lv_lload_n C.1 C.2.1 dX11_writeWord_20 rfl (lv_at hl 1 rfl) ?_
    refine lv_ldc2 (v := 27) C.1 C.2.1 C.2.2.2.1 (C.2.2.2.2 _ kw1353) dX11_writeWord_21 ?_
    refine lv_lrem C.1 C.2.1 dX11_writeWord_24 (by decide) (x_genl (fun v3 => ?_))
    refine lv_l2i (v := v3.toInt32) C.1 C.2.1 dX11_writeWord_25 rfl (x_gen (fun v4 => ?_))
    refine lv_iadd C.1 C.2.1 dX11_writeWord_26 (x_gen (fun v5 => ?_))
    refine x_callvV (As := [.int v5]) (rest := []) (wr := []) C hw (s_X11_write qm v5 qm_thrown qm_tape qm_taped qm_size qm_limit qm_to qm_from qm_kind qm_number qm_sign qm_fault qm_place qm_word qm_told qm_now qm_read qm_kept qm_snaps qm_aside qm_name qm_readName qm_keptName qm_isKept qm_onces qm_snapMany qm_order qm_ordered qm_orderMany qm_orderMost qm_passing qm_movedWho qm_scratched qm_text qm_texts qm_seed qm_line qm_written qm_lineMany qm_hasWritten qm_node qm_nodes qm_onesMany qm_within qm_top qm_text_c (by omega) (by omega)) mwX11_write kw1675 [0, 1] [] rfl rfl rfl rfl (by decide) 0 rfl rfl rfl rfl hl.1 rfl (Nat.le_of_ble_eq_true rfl) ⟨(Nat.le_of_ble_eq_true rfl), (Nat.le_of_ble_eq_true rfl)⟩ ⟨(Nat.le_of_ble_eq_true rfl), (Nat.le_of_ble_eq_true rfl)⟩ dX11_writeWord_27 (fun  u9 H locs hp9 hw => ?_)
    obtain ⟨x6, x7, rfl, hf8, hf9⟩ := hp9
    have hw : Wd G s A [(qm, .inr (10, [.int qm_thrown, .ref qm_tape, .int qm_taped, .int qm_size, .int qm_limit, .int qm_to, .int qm_from, .int qm_kind, .int qm_number, .int qm_sign, .int qm_fault, .int qm_place, .long qm_word, .int qm_told, .ref qm_now, .ref qm_read, .ref qm_kept, .ref qm_snaps, .ref qm_aside, .ref qm_name, .ref qm_readName, .ref qm_keptName, .ref qm_isKept, .ref qm_onces, .int qm_snapMany, .ref qm_order, .ref qm_ordered, .int qm_orderMany, .int qm_orderMost, .int qm_passing, .int qm_movedWho, .int qm_scratched, .ref qm_text, .int x6, .int qm_seed, .ref qm_line, .ref qm_written, .int qm_lineMany, .int qm_hasWritten, .ref qm_node, .int qm_nodes, .int qm_onesMany, .int qm_within, .int qm_top])), (qm_text, eI G 64 x7)] H _ := hw
    exact x_retvQ hQ B hw ⟨x6, x7, rfl, (by omega), (by omega)⟩ (Nat.le_of_ble_eq_true rfl) (Nat.le_of_ble_eq_true rfl) dX11_writeWord_30
  · skip
    have c2 : 0 ≤ v1.toInt := i_ltF (X := v1.toInt) (Y := 0) rfl rfl c2
    have bc2_v1 := i_bd v1
    exfalso; omega
theorem dX11_writeWord_8 : decode cX11_writeWord 8 = .ok (.aload_n 0, 1) := by decide +kernel
theorem dX11_writeWord_9 : decode cX11_writeWord 9 = .ok (.lload_n 1, 1) := by decide +kernel
theorem dX11_writeWord_10 : decode cX11_writeWord 10 = .ok (.ldc2_w 54, 3) := by decide +kernel
theorem dX11_writeWord_13 : decode cX11_writeWord 13 = .ok (.ldiv, 1) := by decide +kernel
theorem dX11_writeWord_14 : decode cX11_writeWord 14 = .ok (.invokevirtual 336, 3) := by decide +kernel
theorem mwX11_writeWord : MwV yX11_writeWord cX11_writeWord 3 none 1 := ⟨⟨kw1674, kw15, by decide +kernel⟩, kw1673, kS92⟩
set_option maxHeartbeats 4000000 in
set_option maxRecDepth 100000 in
theorem s_X11_writeWord_2 {l : Launch} {G : Gc} (qm : Nat) (a1 : Int64) (qm_thrown : Int32) (qm_tape : Nat) (qm_taped : Int32) (qm_size : Int32) (qm_limit : Int32) (qm_to : Int32) (qm_from : Int32) (qm_kind : Int32) (qm_number : Int32) (qm_sign : Int32) (qm_fault : Int32) (qm_place : Int32) (qm_word : Int64) (qm_told : Int32) (qm_now : Nat) (qm_read : Nat) (qm_kept : Nat) (qm_snaps : Nat) (qm_aside : Nat) (qm_name : Nat) (qm_readName : Nat) (qm_keptName : Nat) (qm_isKept : Nat) (qm_onces : Nat) (qm_snapMany : Int32) (qm_order : Nat) (qm_ordered : Nat) (qm_orderMany : Int32) (qm_orderMost : Int32) (qm_passing : Int32) (qm_movedWho : Int32) (qm_scratched : Int32) (qm_text : Nat) (qm_texts : Int32) (qm_seed : Int32) (qm_line : Nat) (qm_written : Nat) (qm_lineMany : Int32) (qm_hasWritten : Int32) (qm_node : Nat) (qm_nodes : Int32) (qm_onesMany : Int32) (qm_within : Int32) (qm_top : Int32) (qm_text_c : Nat → Int32) (hi_qm_texts : 0 ≤ qm_texts.toInt ∧ qm_texts.toInt ≤ 64) (hr_0 : a1.toInt < 729) (hr_1 : qm_texts.toInt + 2 ≤ 64) : Cv l yX11_writeWord cX11_writeWord 3 2 0 0 G [.ref qm, .long a1] [(qm, .inr (10, [.int qm_thrown, .ref qm_tape, .int qm_taped, .int qm_size, .int qm_limit, .int qm_to, .int qm_from, .int qm_kind, .int qm_number, .int qm_sign, .int qm_fault, .int qm_place, .long qm_word, .int qm_told, .ref qm_now, .ref qm_read, .ref qm_kept, .ref qm_snaps, .ref qm_aside, .ref qm_name, .ref qm_readName, .ref qm_keptName, .ref qm_isKept, .ref qm_onces, .int qm_snapMany, .ref qm_order, .ref qm_ordered, .int qm_orderMany, .int qm_orderMost, .int qm_passing, .int qm_movedWho, .int qm_scratched, .ref qm_text, .int qm_texts, .int qm_seed, .ref qm_line, .ref qm_written, .int qm_lineMany, .int qm_hasWritten, .ref qm_node, .int qm_nodes, .int qm_onesMany, .int qm_within, .int qm_top])), (qm_text, eI G 64 qm_text_c)] (fun (u9 : va_W) => ∃ (x0_qm_texts : Int32) (x1_qm_text_c : Nat → Int32), u9 = [(qm, .inr (10, [.int qm_thrown, .ref qm_tape, .int qm_taped, .int qm_size, .int qm_limit, .int qm_to, .int qm_from, .int qm_kind, .int qm_number, .int qm_sign, .int qm_fault, .int qm_place, .long qm_word, .int qm_told, .ref qm_now, .ref qm_read, .ref qm_kept, .ref qm_snaps, .ref qm_aside, .ref qm_name, .ref qm_readName, .ref qm_keptName, .ref qm_isKept, .ref qm_onces, .int qm_snapMany, .ref qm_order, .ref qm_ordered, .int qm_orderMany, .int qm_orderMost, .int qm_passing, .int qm_movedWho, .int qm_scratched, .ref qm_text, .int x0_qm_texts, .int qm_seed, .ref qm_line, .ref qm_written, .int qm_lineMany, .int qm_hasWritten, .ref qm_node, .int qm_nodes, .int qm_onesMany, .int qm_within, .int qm_top])), (qm_text, eI G 64 x1_qm_text_c)] ∧ (1 ≤ x0_qm_texts.toInt ∧ x0_qm_texts.toInt ≤ 64) ∧ (qm_texts.toInt ≤ x0_qm_texts.toInt ∧ x0_qm_texts.toInt ≤ qm_texts.toInt + 2)) := by
  refine Cv.ofQ (by decide) (Nat.le_of_ble_eq_true rfl) ?_
  intro p e s m below meth c ls A args Q hQ B hw hl
  have C : CallFix p m c cX11_writeWord 3 s args gw "LanternStateModel" := B.1
  have hl : lv_has ls 3 [(0, .ref qm), (1, .long a1)] := hl
  refine lv_lload_n C.1 C.2.1 dX11_writeWord_0 rfl (lv_at hl 1 rfl) ?_
  refine lv_ldc2 (v := 27) C.1 C.2.1 C.2.2.2.1 (C.2.2.2.2 _ kw1353) dX11_writeWord_1 ?_
  refine W.lcmp C.1 C.2.1 dX11_writeWord_4 (x_genP (fun z : Int32 => 0 ≤ z.toInt ↔ 27 ≤ a1.toInt) (l_cmp rfl rfl) (fun v1 hv1 => ?_))
  refine lv_if_lt (tgt := 17) C.1 C.2.1 dX11_writeWord_5 (by decide) (fun c2 => ?_) (fun c2 => ?_)
  · skip
    have c2 : v1.toInt < 0 := i_ltT (X := v1.toInt) (Y := 0) rfl rfl c2
    have bc2_v1 := i_bd v1
    refine lv_aload_n C.1 C.2.1 dX11_writeWord_17 rfl (lv_at hl 0 rfl) ?_
    refine lv_bipush (v := 96) C.1 C.2.1 dX11_writeWord_18 (by decide) ?_
    refine lv_lload_n C.1 C.2.1 dX11_writeWord_20 rfl (lv_at hl 1 rfl) ?_
    refine lv_ldc2 (v := 27) C.1 C.2.1 C.2.2.2.1 (C.2.2.2.2 _ kw1353) dX11_writeWord_21 ?_
    refine lv_lrem C.1 C.2.1 dX11_writeWord_24 (by decide) (x_genl (fun v3 => ?_))
    refine lv_l2i (v := v3.toInt32) C.1 C.2.1 dX11_writeWord_25 rfl (x_gen (fun v4 => ?_))
    refine lv_iadd C.1 C.2.1 dX11_writeWord_26 (x_gen (fun v5 => ?_))
    refine x_callvV (As := [.int v5]) (rest := []) (wr := []) C hw (s_X11_write qm v5 qm_thrown qm_tape qm_taped qm_size qm_limit qm_to qm_from qm_kind qm_number qm_sign qm_fault qm_place qm_word qm_told qm_now qm_read qm_kept qm_snaps qm_aside qm_name qm_readName qm_keptName qm_isKept qm_onces qm_snapMany qm_order qm_ordered qm_orderMany qm_orderMost qm_passing qm_movedWho qm_scratched qm_text qm_texts qm_seed qm_line qm_written qm_lineMany qm_hasWritten qm_node qm_nodes qm_onesMany qm_within qm_top qm_text_c (by omega) (by omega)) mwX11_write kw1675 [0, 1] [] rfl rfl rfl rfl (by decide) 0 rfl rfl rfl rfl hl.1 rfl (Nat.le_of_ble_eq_true rfl) ⟨(Nat.le_of_ble_eq_true rfl), (Nat.le_of_ble_eq_true rfl)⟩ ⟨(Nat.le_of_ble_eq_true rfl), (Nat.le_of_ble_eq_true rfl)⟩ dX11_writeWord_27 (fun  u9 H locs hp9 hw => ?_)
    obtain ⟨x6, x7, rfl, hf8, hf9⟩ := hp9
    have hw : Wd G s A [(qm, .inr (10, [.int qm_thrown, .ref qm_tape, .int qm_taped, .int qm_size, .int qm_limit, .int qm_to, .int qm_from, .int qm_kind, .int qm_number, .int qm_sign, .int qm_fault, .int qm_place, .long qm_word, .int qm_told, .ref qm_now, .ref qm_read, .ref qm_kept, .ref qm_snaps, .ref qm_aside, .ref qm_name, .ref qm_readName, .ref qm_keptName, .ref qm_isKept, .ref qm_onces, .int qm_snapMany, .ref qm_order, .ref qm_ordered, .int qm_orderMany, .int qm_orderMost, .int qm_passing, .int qm_movedWho, .int qm_scratched, .ref qm_text, .int x6, .int qm_seed, .ref qm_line, .ref qm_written, .int qm_lineMany, .int qm_hasWritten, .ref qm_node, .int qm_nodes, .int qm_onesMany, .int qm_within, .int qm_top])), (qm_text, eI G 64 x7)] H _ := hw
    exact x_retvQ hQ B hw ⟨x6, x7, rfl, (by omega), (by omega)⟩ (Nat.le_of_ble_eq_true rfl) (Nat.le_of_ble_eq_true rfl) dX11_writeWord_30
  · skip
    have c2 : 0 ≤ v1.toInt := i_ltF (X := v1.toInt) (Y := 0) rfl rfl c2
    have bc2_v1 := i_bd v1
    refine lv_aload_n C.1 C.2.1 dX11_writeWord_8 rfl (lv_at hl 0 rfl) ?_
    refine lv_lload_n C.1 C.2.1 dX11_writeWord_9 rfl (lv_at hl 1 rfl) ?_
    refine lv_ldc2 (v := 27) C.1 C.2.1 C.2.2.2.1 (C.2.2.2.2 _ kw1353) dX11_writeWord_10 ?_
    refine lv_ldiv C.1 C.2.1 dX11_writeWord_13 (by decide) (x_genlP (fun z : Int64 => z.toInt = a1.toInt / 27) (l_div27 rfl (by omega)) (fun v10 hv10 => ?_))
    refine x_callvV (As := [.long v10]) (rest := []) (wr := []) C hw (s_X11_writeWord_1 qm v10 qm_thrown qm_tape qm_taped qm_size qm_limit qm_to qm_from qm_kind qm_number qm_sign qm_fault qm_place qm_word qm_told qm_now qm_read qm_kept qm_snaps qm_aside qm_name qm_readName qm_keptName qm_isKept qm_onces qm_snapMany qm_order qm_ordered qm_orderMany qm_orderMost qm_passing qm_movedWho qm_scratched qm_text qm_texts qm_seed qm_line qm_written qm_lineMany qm_hasWritten qm_node qm_nodes qm_onesMany qm_within qm_top qm_text_c (by omega) (by omega) (by omega)) mwX11_writeWord kw1671 [0, 1] [] rfl rfl rfl rfl (by decide) 0 rfl rfl rfl rfl hl.1 rfl (Nat.le_of_ble_eq_true rfl) ⟨(Nat.le_of_ble_eq_true rfl), (Nat.le_of_ble_eq_true rfl)⟩ ⟨(Nat.le_of_ble_eq_true rfl), (Nat.le_of_ble_eq_true rfl)⟩ dX11_writeWord_14 (fun  u9 H locs hp9 hw => ?_)
    obtain ⟨x11, x12, rfl, hf13, hf14⟩ := hp9
    have hw : Wd G s A [(qm, .inr (10, [.int qm_thrown, .ref qm_tape, .int qm_taped, .int qm_size, .int qm_limit, .int qm_to, .int qm_from, .int qm_kind, .int qm_number, .int qm_sign, .int qm_fault, .int qm_place, .long qm_word, .int qm_told, .ref qm_now, .ref qm_read, .ref qm_kept, .ref qm_snaps, .ref qm_aside, .ref qm_name, .ref qm_readName, .ref qm_keptName, .ref qm_isKept, .ref qm_onces, .int qm_snapMany, .ref qm_order, .ref qm_ordered, .int qm_orderMany, .int qm_orderMost, .int qm_passing, .int qm_movedWho, .int qm_scratched, .ref qm_text, .int x11, .int qm_seed, .ref qm_line, .ref qm_written, .int qm_lineMany, .int qm_hasWritten, .ref qm_node, .int qm_nodes, .int qm_onesMany, .int qm_within, .int qm_top])), (qm_text, eI G 64 x12)] H _ := hw
    refine lv_aload_n C.1 C.2.1 dX11_writeWord_17 rfl (lv_at hl 0 rfl) ?_
    refine lv_bipush (v := 96) C.1 C.2.1 dX11_writeWord_18 (by decide) ?_
    refine lv_lload_n C.1 C.2.1 dX11_writeWord_20 rfl (lv_at hl 1 rfl) ?_
    refine lv_ldc2 (v := 27) C.1 C.2.1 C.2.2.2.1 (C.2.2.2.2 _ kw1353) dX11_writeWord_21 ?_
    refine lv_lrem C.1 C.2.1 dX11_writeWord_24 (by decide) (x_genl (fun v15 => ?_))
    refine lv_l2i (v := v15.toInt32) C.1 C.2.1 dX11_writeWord_25 rfl (x_gen (fun v16 => ?_))
    refine lv_iadd C.1 C.2.1 dX11_writeWord_26 (x_gen (fun v17 => ?_))
    refine x_callvV (As := [.int v17]) (rest := []) (wr := []) C hw (s_X11_write qm v17 qm_thrown qm_tape qm_taped qm_size qm_limit qm_to qm_from qm_kind qm_number qm_sign qm_fault qm_place qm_word qm_told qm_now qm_read qm_kept qm_snaps qm_aside qm_name qm_readName qm_keptName qm_isKept qm_onces qm_snapMany qm_order qm_ordered qm_orderMany qm_orderMost qm_passing qm_movedWho qm_scratched qm_text x11 qm_seed qm_line qm_written qm_lineMany qm_hasWritten qm_node qm_nodes qm_onesMany qm_within qm_top x12 (by omega) (by omega)) mwX11_write kw1675 [0, 1] [] rfl rfl rfl rfl (by decide) 0 rfl rfl rfl rfl hl.1 rfl (Nat.le_of_ble_eq_true rfl) ⟨(Nat.le_of_ble_eq_true rfl), (Nat.le_of_ble_eq_true rfl)⟩ ⟨(Nat.le_of_ble_eq_true rfl), (Nat.le_of_ble_eq_true rfl)⟩ dX11_writeWord_27 (fun  u9 H locs hp9 hw => ?_)
    obtain ⟨x18, x19, rfl, hf20, hf21⟩ := hp9
    have hw : Wd G s A [(qm, .inr (10, [.int qm_thrown, .ref qm_tape, .int qm_taped, .int qm_size, .int qm_limit, .int qm_to, .int qm_from, .int qm_kind, .int qm_number, .int qm_sign, .int qm_fault, .int qm_place, .long qm_word, .int qm_told, .ref qm_now, .ref qm_read, .ref qm_kept, .ref qm_snaps, .ref qm_aside, .ref qm_name, .ref qm_readName, .ref qm_keptName, .ref qm_isKept, .ref qm_onces, .int qm_snapMany, .ref qm_order, .ref qm_ordered, .int qm_orderMany, .int qm_orderMost, .int qm_passing, .int qm_movedWho, .int qm_scratched, .ref qm_text, .int x18, .int qm_seed, .ref qm_line, .ref qm_written, .int qm_lineMany, .int qm_hasWritten, .ref qm_node, .int qm_nodes, .int qm_onesMany, .int qm_within, .int qm_top])), (qm_text, eI G 64 x19)] H _ := hw
    exact x_retvQ hQ B hw ⟨x18, x19, rfl, (by omega), (by omega)⟩ (Nat.le_of_ble_eq_true rfl) (Nat.le_of_ble_eq_true rfl) dX11_writeWord_30
set_option maxHeartbeats 4000000 in
set_option maxRecDepth 100000 in
theorem s_X11_writeWord_3 {l : Launch} {G : Gc} (qm : Nat) (a1 : Int64) (qm_thrown : Int32) (qm_tape : Nat) (qm_taped : Int32) (qm_size : Int32) (qm_limit : Int32) (qm_to : Int32) (qm_from : Int32) (qm_kind : Int32) (qm_number : Int32) (qm_sign : Int32) (qm_fault : Int32) (qm_place : Int32) (qm_word : Int64) (qm_told : Int32) (qm_now : Nat) (qm_read : Nat) (qm_kept : Nat) (qm_snaps : Nat) (qm_aside : Nat) (qm_name : Nat) (qm_readName : Nat) (qm_keptName : Nat) (qm_isKept : Nat) (qm_onces : Nat) (qm_snapMany : Int32) (qm_order : Nat) (qm_ordered : Nat) (qm_orderMany : Int32) (qm_orderMost : Int32) (qm_passing : Int32) (qm_movedWho : Int32) (qm_scratched : Int32) (qm_text : Nat) (qm_texts : Int32) (qm_seed : Int32) (qm_line : Nat) (qm_written : Nat) (qm_lineMany : Int32) (qm_hasWritten : Int32) (qm_node : Nat) (qm_nodes : Int32) (qm_onesMany : Int32) (qm_within : Int32) (qm_top : Int32) (qm_text_c : Nat → Int32) (hi_qm_texts : 0 ≤ qm_texts.toInt ∧ qm_texts.toInt ≤ 64) (hr_0 : a1.toInt < 19683) (hr_1 : qm_texts.toInt + 3 ≤ 64) : Cv l yX11_writeWord cX11_writeWord 3 3 0 0 G [.ref qm, .long a1] [(qm, .inr (10, [.int qm_thrown, .ref qm_tape, .int qm_taped, .int qm_size, .int qm_limit, .int qm_to, .int qm_from, .int qm_kind, .int qm_number, .int qm_sign, .int qm_fault, .int qm_place, .long qm_word, .int qm_told, .ref qm_now, .ref qm_read, .ref qm_kept, .ref qm_snaps, .ref qm_aside, .ref qm_name, .ref qm_readName, .ref qm_keptName, .ref qm_isKept, .ref qm_onces, .int qm_snapMany, .ref qm_order, .ref qm_ordered, .int qm_orderMany, .int qm_orderMost, .int qm_passing, .int qm_movedWho, .int qm_scratched, .ref qm_text, .int qm_texts, .int qm_seed, .ref qm_line, .ref qm_written, .int qm_lineMany, .int qm_hasWritten, .ref qm_node, .int qm_nodes, .int qm_onesMany, .int qm_within, .int qm_top])), (qm_text, eI G 64 qm_text_c)] (fun (u9 : va_W) => ∃ (x0_qm_texts : Int32) (x1_qm_text_c : Nat → Int32), u9 = [(qm, .inr (10, [.int qm_thrown, .ref qm_tape, .int qm_taped, .int qm_size, .int qm_limit, .int qm_to, .int qm_from, .int qm_kind, .int qm_number, .int qm_sign, .int qm_fault, .int qm_place, .long qm_word, .int qm_told, .ref qm_now, .ref qm_read, .ref qm_kept, .ref qm_snaps, .ref qm_aside, .ref qm_name, .ref qm_readName, .ref qm_keptName, .ref qm_isKept, .ref qm_onces, .int qm_snapMany, .ref qm_order, .ref qm_ordered, .int qm_orderMany, .int qm_orderMost, .int qm_passing, .int qm_movedWho, .int qm_scratched, .ref qm_text, .int x0_qm_texts, .int qm_seed, .ref qm_line, .ref qm_written, .int qm_lineMany, .int qm_hasWritten, .ref qm_node, .int qm_nodes, .int qm_onesMany, .int qm_within, .int qm_top])), (qm_text, eI G 64 x1_qm_text_c)] ∧ (1 ≤ x0_qm_texts.toInt ∧ x0_qm_texts.toInt ≤ 64) ∧ (qm_texts.toInt ≤ x0_qm_texts.toInt ∧ x0_qm_texts.toInt ≤ qm_texts.toInt + 3)) := by
  refine Cv.ofQ (by decide) (Nat.le_of_ble_eq_true rfl) ?_
  intro p e s m below meth c ls A args Q hQ B hw hl
  have C : CallFix p m c cX11_writeWord 3 s args gw "LanternStateModel" := B.1
  have hl : lv_has ls 3 [(0, .ref qm), (1, .long a1)] := hl
  refine lv_lload_n C.1 C.2.1 dX11_writeWord_0 rfl (lv_at hl 1 rfl) ?_
  refine lv_ldc2 (v := 27) C.1 C.2.1 C.2.2.2.1 (C.2.2.2.2 _ kw1353) dX11_writeWord_1 ?_
  refine W.lcmp C.1 C.2.1 dX11_writeWord_4 (x_genP (fun z : Int32 => 0 ≤ z.toInt ↔ 27 ≤ a1.toInt) (l_cmp rfl rfl) (fun v1 hv1 => ?_))
  refine lv_if_lt (tgt := 17) C.1 C.2.1 dX11_writeWord_5 (by decide) (fun c2 => ?_) (fun c2 => ?_)
  · skip
    have c2 : v1.toInt < 0 := i_ltT (X := v1.toInt) (Y := 0) rfl rfl c2
    have bc2_v1 := i_bd v1
    refine lv_aload_n C.1 C.2.1 dX11_writeWord_17 rfl (lv_at hl 0 rfl) ?_
    refine lv_bipush (v := 96) C.1 C.2.1 dX11_writeWord_18 (by decide) ?_
    refine lv_lload_n C.1 C.2.1 dX11_writeWord_20 rfl (lv_at hl 1 rfl) ?_
    refine lv_ldc2 (v := 27) C.1 C.2.1 C.2.2.2.1 (C.2.2.2.2 _ kw1353) dX11_writeWord_21 ?_
    refine lv_lrem C.1 C.2.1 dX11_writeWord_24 (by decide) (x_genl (fun v3 => ?_))
    refine lv_l2i (v := v3.toInt32) C.1 C.2.1 dX11_writeWord_25 rfl (x_gen (fun v4 => ?_))
    refine lv_iadd C.1 C.2.1 dX11_writeWord_26 (x_gen (fun v5 => ?_))
    refine x_callvV (As := [.int v5]) (rest := []) (wr := []) C hw (s_X11_write qm v5 qm_thrown qm_tape qm_taped qm_size qm_limit qm_to qm_from qm_kind qm_number qm_sign qm_fault qm_place qm_word qm_told qm_now qm_read qm_kept qm_snaps qm_aside qm_name qm_readName qm_keptName qm_isKept qm_onces qm_snapMany qm_order qm_ordered qm_orderMany qm_orderMost qm_passing qm_movedWho qm_scratched qm_text qm_texts qm_seed qm_line qm_written qm_lineMany qm_hasWritten qm_node qm_nodes qm_onesMany qm_within qm_top qm_text_c (by omega) (by omega)) mwX11_write kw1675 [0, 1] [] rfl rfl rfl rfl (by decide) 0 rfl rfl rfl rfl hl.1 rfl (Nat.le_of_ble_eq_true rfl) ⟨(Nat.le_of_ble_eq_true rfl), (Nat.le_of_ble_eq_true rfl)⟩ ⟨(Nat.le_of_ble_eq_true rfl), (Nat.le_of_ble_eq_true rfl)⟩ dX11_writeWord_27 (fun  u9 H locs hp9 hw => ?_)
    obtain ⟨x6, x7, rfl, hf8, hf9⟩ := hp9
    have hw : Wd G s A [(qm, .inr (10, [.int qm_thrown, .ref qm_tape, .int qm_taped, .int qm_size, .int qm_limit, .int qm_to, .int qm_from, .int qm_kind, .int qm_number, .int qm_sign, .int qm_fault, .int qm_place, .long qm_word, .int qm_told, .ref qm_now, .ref qm_read, .ref qm_kept, .ref qm_snaps, .ref qm_aside, .ref qm_name, .ref qm_readName, .ref qm_keptName, .ref qm_isKept, .ref qm_onces, .int qm_snapMany, .ref qm_order, .ref qm_ordered, .int qm_orderMany, .int qm_orderMost, .int qm_passing, .int qm_movedWho, .int qm_scratched, .ref qm_text, .int x6, .int qm_seed, .ref qm_line, .ref qm_written, .int qm_lineMany, .int qm_hasWritten, .ref qm_node, .int qm_nodes, .int qm_onesMany, .int qm_within, .int qm_top])), (qm_text, eI G 64 x7)] H _ := hw
    exact x_retvQ hQ B hw ⟨x6, x7, rfl, (by omega), (by omega)⟩ (Nat.le_of_ble_eq_true rfl) (Nat.le_of_ble_eq_true rfl) dX11_writeWord_30
  · skip
    have c2 : 0 ≤ v1.toInt := i_ltF (X := v1.toInt) (Y := 0) rfl rfl c2
    have bc2_v1 := i_bd v1
    refine lv_aload_n C.1 C.2.1 dX11_writeWord_8 rfl (lv_at hl 0 rfl) ?_
    refine lv_lload_n C.1 C.2.1 dX11_writeWord_9 rfl (lv_at hl 1 rfl) ?_
    refine lv_ldc2 (v := 27) C.1 C.2.1 C.2.2.2.1 (C.2.2.2.2 _ kw1353) dX11_writeWord_10 ?_
    refine lv_ldiv C.1 C.2.1 dX11_writeWord_13 (by decide) (x_genlP (fun z : Int64 => z.toInt = a1.toInt / 27) (l_div27 rfl (by omega)) (fun v10 hv10 => ?_))
    refine x_callvV (As := [.long v10]) (rest := []) (wr := []) C hw (s_X11_writeWord_2 qm v10 qm_thrown qm_tape qm_taped qm_size qm_limit qm_to qm_from qm_kind qm_number qm_sign qm_fault qm_place qm_word qm_told qm_now qm_read qm_kept qm_snaps qm_aside qm_name qm_readName qm_keptName qm_isKept qm_onces qm_snapMany qm_order qm_ordered qm_orderMany qm_orderMost qm_passing qm_movedWho qm_scratched qm_text qm_texts qm_seed qm_line qm_written qm_lineMany qm_hasWritten qm_node qm_nodes qm_onesMany qm_within qm_top qm_text_c (by omega) (by omega) (by omega)) mwX11_writeWord kw1671 [0, 1] [] rfl rfl rfl rfl (by decide) 0 rfl rfl rfl rfl hl.1 rfl (Nat.le_of_ble_eq_true rfl) ⟨(Nat.le_of_ble_eq_true rfl), (Nat.le_of_ble_eq_true rfl)⟩ ⟨(Nat.le_of_ble_eq_true rfl), (Nat.le_of_ble_eq_true rfl)⟩ dX11_writeWord_14 (fun  u9 H locs hp9 hw => ?_)
    obtain ⟨x11, x12, rfl, hf13, hf14⟩ := hp9
    have hw : Wd G s A [(qm, .inr (10, [.int qm_thrown, .ref qm_tape, .int qm_taped, .int qm_size, .int qm_limit, .int qm_to, .int qm_from, .int qm_kind, .int qm_number, .int qm_sign, .int qm_fault, .int qm_place, .long qm_word, .int qm_told, .ref qm_now, .ref qm_read, .ref qm_kept, .ref qm_snaps, .ref qm_aside, .ref qm_name, .ref qm_readName, .ref qm_keptName, .ref qm_isKept, .ref qm_onces, .int qm_snapMany, .ref qm_order, .ref qm_ordered, .int qm_orderMany, .int qm_orderMost, .int qm_passing, .int qm_movedWho, .int qm_scratched, .ref qm_text, .int x11, .int qm_seed, .ref qm_line, .ref qm_written, .int qm_lineMany, .int qm_hasWritten, .ref qm_node, .int qm_nodes, .int qm_onesMany, .int qm_within, .int qm_top])), (qm_text, eI G 64 x12)] H _ := hw
    refine lv_aload_n C.1 C.2.1 dX11_writeWord_17 rfl (lv_at hl 0 rfl) ?_
    refine lv_bipush (v := 96) C.1 C.2.1 dX11_writeWord_18 (by decide) ?_
    refine lv_lload_n C.1 C.2.1 dX11_writeWord_20 rfl (lv_at hl 1 rfl) ?_
    refine lv_ldc2 (v := 27) C.1 C.2.1 C.2.2.2.1 (C.2.2.2.2 _ kw1353) dX11_writeWord_21 ?_
    refine lv_lrem C.1 C.2.1 dX11_writeWord_24 (by decide) (x_genl (fun v15 => ?_))
    refine lv_l2i (v := v15.toInt32) C.1 C.2.1 dX11_writeWord_25 rfl (x_gen (fun v16 => ?_))
    refine lv_iadd C.1 C.2.1 dX11_writeWord_26 (x_gen (fun v17 => ?_))
    refine x_callvV (As := [.int v17]) (rest := []) (wr := []) C hw (s_X11_write qm v17 qm_thrown qm_tape qm_taped qm_size qm_limit qm_to qm_from qm_kind qm_number qm_sign qm_fault qm_place qm_word qm_told qm_now qm_read qm_kept qm_snaps qm_aside qm_name qm_readName qm_keptName qm_isKept qm_onces qm_snapMany qm_order qm_ordered qm_orderMany qm_orderMost qm_passing qm_movedWho qm_scratched qm_text x11 qm_seed qm_line qm_written qm_lineMany qm_hasWritten qm_node qm_nodes qm_onesMany qm_within qm_top x12 (by omega) (by omega)) mwX11_write kw1675 [0, 1] [] rfl rfl rfl rfl (by decide) 0 rfl rfl rfl rfl hl.1 rfl (Nat.le_of_ble_eq_true rfl) ⟨(Nat.le_of_ble_eq_true rfl), (Nat.le_of_ble_eq_true rfl)⟩ ⟨(Nat.le_of_ble_eq_true rfl), (Nat.le_of_ble_eq_true rfl)⟩ dX11_writeWord_27 (fun  u9 H locs hp9 hw => ?_)
    obtain ⟨x18, x19, rfl, hf20, hf21⟩ := hp9
    have hw : Wd G s A [(qm, .inr (10, [.int qm_thrown, .ref qm_tape, .int qm_taped, .int qm_size, .int qm_limit, .int qm_to, .int qm_from, .int qm_kind, .int qm_number, .int qm_sign, .int qm_fault, .int qm_place, .long qm_word, .int qm_told, .ref qm_now, .ref qm_read, .ref qm_kept, .ref qm_snaps, .ref qm_aside, .ref qm_name, .ref qm_readName, .ref qm_keptName, .ref qm_isKept, .ref qm_onces, .int qm_snapMany, .ref qm_order, .ref qm_ordered, .int qm_orderMany, .int qm_orderMost, .int qm_passing, .int qm_movedWho, .int qm_scratched, .ref qm_text, .int x18, .int qm_seed, .ref qm_line, .ref qm_written, .int qm_lineMany, .int qm_hasWritten, .ref qm_node, .int qm_nodes, .int qm_onesMany, .int qm_within, .int qm_top])), (qm_text, eI G 64 x19)] H _ := hw
    exact x_retvQ hQ B hw ⟨x18, x19, rfl, (by omega), (by omega)⟩ (Nat.le_of_ble_eq_true rfl) (Nat.le_of_ble_eq_true rfl) dX11_writeWord_30
set_option maxHeartbeats 4000000 in
set_option maxRecDepth 100000 in
theorem s_X11_writeWord_4 {l : Launch} {G : Gc} (qm : Nat) (a1 : Int64) (qm_thrown : Int32) (qm_tape : Nat) (qm_taped : Int32) (qm_size : Int32) (qm_limit : Int32) (qm_to : Int32) (qm_from : Int32) (qm_kind : Int32) (qm_number : Int32) (qm_sign : Int32) (qm_fault : Int32) (qm_place : Int32) (qm_word : Int64) (qm_told : Int32) (qm_now : Nat) (qm_read : Nat) (qm_kept : Nat) (qm_snaps : Nat) (qm_aside : Nat) (qm_name : Nat) (qm_readName : Nat) (qm_keptName : Nat) (qm_isKept : Nat) (qm_onces : Nat) (qm_snapMany : Int32) (qm_order : Nat) (qm_ordered : Nat) (qm_orderMany : Int32) (qm_orderMost : Int32) (qm_passing : Int32) (qm_movedWho : Int32) (qm_scratched : Int32) (qm_text : Nat) (qm_texts : Int32) (qm_seed : Int32) (qm_line : Nat) (qm_written : Nat) (qm_lineMany : Int32) (qm_hasWritten : Int32) (qm_node : Nat) (qm_nodes : Int32) (qm_onesMany : Int32) (qm_within : Int32) (qm_top : Int32) (qm_text_c : Nat → Int32) (hi_qm_texts : 0 ≤ qm_texts.toInt ∧ qm_texts.toInt ≤ 64) (hr_0 : a1.toInt < 531441) (hr_1 : qm_texts.toInt + 4 ≤ 64) : Cv l yX11_writeWord cX11_writeWord 3 4 0 0 G [.ref qm, .long a1] [(qm, .inr (10, [.int qm_thrown, .ref qm_tape, .int qm_taped, .int qm_size, .int qm_limit, .int qm_to, .int qm_from, .int qm_kind, .int qm_number, .int qm_sign, .int qm_fault, .int qm_place, .long qm_word, .int qm_told, .ref qm_now, .ref qm_read, .ref qm_kept, .ref qm_snaps, .ref qm_aside, .ref qm_name, .ref qm_readName, .ref qm_keptName, .ref qm_isKept, .ref qm_onces, .int qm_snapMany, .ref qm_order, .ref qm_ordered, .int qm_orderMany, .int qm_orderMost, .int qm_passing, .int qm_movedWho, .int qm_scratched, .ref qm_text, .int qm_texts, .int qm_seed, .ref qm_line, .ref qm_written, .int qm_lineMany, .int qm_hasWritten, .ref qm_node, .int qm_nodes, .int qm_onesMany, .int qm_within, .int qm_top])), (qm_text, eI G 64 qm_text_c)] (fun (u9 : va_W) => ∃ (x0_qm_texts : Int32) (x1_qm_text_c : Nat → Int32), u9 = [(qm, .inr (10, [.int qm_thrown, .ref qm_tape, .int qm_taped, .int qm_size, .int qm_limit, .int qm_to, .int qm_from, .int qm_kind, .int qm_number, .int qm_sign, .int qm_fault, .int qm_place, .long qm_word, .int qm_told, .ref qm_now, .ref qm_read, .ref qm_kept, .ref qm_snaps, .ref qm_aside, .ref qm_name, .ref qm_readName, .ref qm_keptName, .ref qm_isKept, .ref qm_onces, .int qm_snapMany, .ref qm_order, .ref qm_ordered, .int qm_orderMany, .int qm_orderMost, .int qm_passing, .int qm_movedWho, .int qm_scratched, .ref qm_text, .int x0_qm_texts, .int qm_seed, .ref qm_line, .ref qm_written, .int qm_lineMany, .int qm_hasWritten, .ref qm_node, .int qm_nodes, .int qm_onesMany, .int qm_within, .int qm_top])), (qm_text, eI G 64 x1_qm_text_c)] ∧ (1 ≤ x0_qm_texts.toInt ∧ x0_qm_texts.toInt ≤ 64) ∧ (qm_texts.toInt ≤ x0_qm_texts.toInt ∧ x0_qm_texts.toInt ≤ qm_texts.toInt + 4)) := by
  refine Cv.ofQ (by decide) (Nat.le_of_ble_eq_true rfl) ?_
  intro p e s m below meth c ls A args Q hQ B hw hl
  have C : CallFix p m c cX11_writeWord 3 s args gw "LanternStateModel" := B.1
  have hl : lv_has ls 3 [(0, .ref qm), (1, .long a1)] := hl
  refine lv_lload_n C.1 C.2.1 dX11_writeWord_0 rfl (lv_at hl 1 rfl) ?_
  refine lv_ldc2 (v := 27) C.1 C.2.1 C.2.2.2.1 (C.2.2.2.2 _ kw1353) dX11_writeWord_1 ?_
  refine W.lcmp C.1 C.2.1 dX11_writeWord_4 (x_genP (fun z : Int32 => 0 ≤ z.toInt ↔ 27 ≤ a1.toInt) (l_cmp rfl rfl) (fun v1 hv1 => ?_))
  refine lv_if_lt (tgt := 17) C.1 C.2.1 dX11_writeWord_5 (by decide) (fun c2 => ?_) (fun c2 => ?_)
  · skip
    have c2 : v1.toInt < 0 := i_ltT (X := v1.toInt) (Y := 0) rfl rfl c2
    have bc2_v1 := i_bd v1
    refine lv_aload_n C.1 C.2.1 dX11_writeWord_17 rfl (lv_at hl 0 rfl) ?_
    refine lv_bipush (v := 96) C.1 C.2.1 dX11_writeWord_18 (by decide) ?_
    refine lv_lload_n C.1 C.2.1 dX11_writeWord_20 rfl (lv_at hl 1 rfl) ?_
    refine lv_ldc2 (v := 27) C.1 C.2.1 C.2.2.2.1 (C.2.2.2.2 _ kw1353) dX11_writeWord_21 ?_
    refine lv_lrem C.1 C.2.1 dX11_writeWord_24 (by decide) (x_genl (fun v3 => ?_))
    refine lv_l2i (v := v3.toInt32) C.1 C.2.1 dX11_writeWord_25 rfl (x_gen (fun v4 => ?_))
    refine lv_iadd C.1 C.2.1 dX11_writeWord_26 (x_gen (fun v5 => ?_))
    refine x_callvV (As := [.int v5]) (rest := []) (wr := []) C hw (s_X11_write qm v5 qm_thrown qm_tape qm_taped qm_size qm_limit qm_to qm_from qm_kind qm_number qm_sign qm_fault qm_place qm_word qm_told qm_now qm_read qm_kept qm_snaps qm_aside qm_name qm_readName qm_keptName qm_isKept qm_onces qm_snapMany qm_order qm_ordered qm_orderMany qm_orderMost qm_passing qm_movedWho qm_scratched qm_text qm_texts qm_seed qm_line qm_written qm_lineMany qm_hasWritten qm_node qm_nodes qm_onesMany qm_within qm_top qm_text_c (by omega) (by omega)) mwX11_write kw1675 [0, 1] [] rfl rfl rfl rfl (by decide) 0 rfl rfl rfl rfl hl.1 rfl (Nat.le_of_ble_eq_true rfl) ⟨(Nat.le_of_ble_eq_true rfl), (Nat.le_of_ble_eq_true rfl)⟩ ⟨(Nat.le_of_ble_eq_true rfl), (Nat.le_of_ble_eq_true rfl)⟩ dX11_writeWord_27 (fun  u9 H locs hp9 hw => ?_)
    obtain ⟨x6, x7, rfl, hf8, hf9⟩ := hp9
    have hw : Wd G s A [(qm, .inr (10, [.int qm_thrown, .ref qm_tape, .int qm_taped, .int qm_size, .int qm_limit, .int qm_to, .int qm_from, .int qm_kind, .int qm_number, .int qm_sign, .int qm_fault, .int qm_place, .long qm_word, .int qm_told, .ref qm_now, .ref qm_read, .ref qm_kept, .ref qm_snaps, .ref qm_aside, .ref qm_name, .ref qm_readName, .ref qm_keptName, .ref qm_isKept, .ref qm_onces, .int qm_snapMany, .ref qm_order, .ref qm_ordered, .int qm_orderMany, .int qm_orderMost, .int qm_passing, .int qm_movedWho, .int qm_scratched, .ref qm_text, .int x6, .int qm_seed, .ref qm_line, .ref qm_written, .int qm_lineMany, .int qm_hasWritten, .ref qm_node, .int qm_nodes, .int qm_onesMany, .int qm_within, .int qm_top])), (qm_text, eI G 64 x7)] H _ := hw
    exact x_retvQ hQ B hw ⟨x6, x7, rfl, (by omega), (by omega)⟩ (Nat.le_of_ble_eq_true rfl) (Nat.le_of_ble_eq_true rfl) dX11_writeWord_30
  · skip
    have c2 : 0 ≤ v1.toInt := i_ltF (X := v1.toInt) (Y := 0) rfl rfl c2
    have bc2_v1 := i_bd v1
    refine lv_aload_n C.1 C.2.1 dX11_writeWord_8 rfl (lv_at hl 0 rfl) ?_
    refine lv_lload_n C.1 C.2.1 dX11_writeWord_9 rfl (lv_at hl 1 rfl) ?_
    refine lv_ldc2 (v := 27) C.1 C.2.1 C.2.2.2.1 (C.2.2.2.2 _ kw1353) dX11_writeWord_10 ?_
    refine lv_ldiv C.1 C.2.1 dX11_writeWord_13 (by decide) (x_genlP (fun z : Int64 => z.toInt = a1.toInt / 27) (l_div27 rfl (by omega)) (fun v10 hv10 => ?_))
    refine x_callvV (As := [.long v10]) (rest := []) (wr := []) C hw (s_X11_writeWord_3 qm v10 qm_thrown qm_tape qm_taped qm_size qm_limit qm_to qm_from qm_kind qm_number qm_sign qm_fault qm_place qm_word qm_told qm_now qm_read qm_kept qm_snaps qm_aside qm_name qm_readName qm_keptName qm_isKept qm_onces qm_snapMany qm_order qm_ordered qm_orderMany qm_orderMost qm_passing qm_movedWho qm_scratched qm_text qm_texts qm_seed qm_line qm_written qm_lineMany qm_hasWritten qm_node qm_nodes qm_onesMany qm_within qm_top qm_text_c (by omega) (by omega) (by omega)) mwX11_writeWord kw1671 [0, 1] [] rfl rfl rfl rfl (by decide) 0 rfl rfl rfl rfl hl.1 rfl (Nat.le_of_ble_eq_true rfl) ⟨(Nat.le_of_ble_eq_true rfl), (Nat.le_of_ble_eq_true rfl)⟩ ⟨(Nat.le_of_ble_eq_true rfl), (Nat.le_of_ble_eq_true rfl)⟩ dX11_writeWord_14 (fun  u9 H locs hp9 hw => ?_)
    obtain ⟨x11, x12, rfl, hf13, hf14⟩ := hp9
    have hw : Wd G s A [(qm, .inr (10, [.int qm_thrown, .ref qm_tape, .int qm_taped, .int qm_size, .int qm_limit, .int qm_to, .int qm_from, .int qm_kind, .int qm_number, .int qm_sign, .int qm_fault, .int qm_place, .long qm_word, .int qm_told, .ref qm_now, .ref qm_read, .ref qm_kept, .ref qm_snaps, .ref qm_aside, .ref qm_name, .ref qm_readName, .ref qm_keptName, .ref qm_isKept, .ref qm_onces, .int qm_snapMany, .ref qm_order, .ref qm_ordered, .int qm_orderMany, .int qm_orderMost, .int qm_passing, .int qm_movedWho, .int qm_scratched, .ref qm_text, .int x11, .int qm_seed, .ref qm_line, .ref qm_written, .int qm_lineMany, .int qm_hasWritten, .ref qm_node, .int qm_nodes, .int qm_onesMany, .int qm_within, .int qm_top])), (qm_text, eI G 64 x12)] H _ := hw
    refine lv_aload_n C.1 C.2.1 dX11_writeWord_17 rfl (lv_at hl 0 rfl) ?_
    refine lv_bipush (v := 96) C.1 C.2.1 dX11_writeWord_18 (by decide) ?_
    refine lv_lload_n C.1 C.2.1 dX11_writeWord_20 rfl (lv_at hl 1 rfl) ?_
    refine lv_ldc2 (v := 27) C.1 C.2.1 C.2.2.2.1 (C.2.2.2.2 _ kw1353) dX11_writeWord_21 ?_
    refine lv_lrem C.1 C.2.1 dX11_writeWord_24 (by decide) (x_genl (fun v15 => ?_))
    refine lv_l2i (v := v15.toInt32) C.1 C.2.1 dX11_writeWord_25 rfl (x_gen (fun v16 => ?_))
    refine lv_iadd C.1 C.2.1 dX11_writeWord_26 (x_gen (fun v17 => ?_))
    refine x_callvV (As := [.int v17]) (rest := []) (wr := []) C hw (s_X11_write qm v17 qm_thrown qm_tape qm_taped qm_size qm_limit qm_to qm_from qm_kind qm_number qm_sign qm_fault qm_place qm_word qm_told qm_now qm_read qm_kept qm_snaps qm_aside qm_name qm_readName qm_keptName qm_isKept qm_onces qm_snapMany qm_order qm_ordered qm_orderMany qm_orderMost qm_passing qm_movedWho qm_scratched qm_text x11 qm_seed qm_line qm_written qm_lineMany qm_hasWritten qm_node qm_nodes qm_onesMany qm_within qm_top x12 (by omega) (by omega)) mwX11_write kw1675 [0, 1] [] rfl rfl rfl rfl (by decide) 0 rfl rfl rfl rfl hl.1 rfl (Nat.le_of_ble_eq_true rfl) ⟨(Nat.le_of_ble_eq_true rfl), (Nat.le_of_ble_eq_true rfl)⟩ ⟨(Nat.le_of_ble_eq_true rfl), (Nat.le_of_ble_eq_true rfl)⟩ dX11_writeWord_27 (fun  u9 H locs hp9 hw => ?_)
    obtain ⟨x18, x19, rfl, hf20, hf21⟩ := hp9
    have hw : Wd G s A [(qm, .inr (10, [.int qm_thrown, .ref qm_tape, .int qm_taped, .int qm_size, .int qm_limit, .int qm_to, .int qm_from, .int qm_kind, .int qm_number, .int qm_sign, .int qm_fault, .int qm_place, .long qm_word, .int qm_told, .ref qm_now, .ref qm_read, .ref qm_kept, .ref qm_snaps, .ref qm_aside, .ref qm_name, .ref qm_readName, .ref qm_keptName, .ref qm_isKept, .ref qm_onces, .int qm_snapMany, .ref qm_order, .ref qm_ordered, .int qm_orderMany, .int qm_orderMost, .int qm_passing, .int qm_movedWho, .int qm_scratched, .ref qm_text, .int x18, .int qm_seed, .ref qm_line, .ref qm_written, .int qm_lineMany, .int qm_hasWritten, .ref qm_node, .int qm_nodes, .int qm_onesMany, .int qm_within, .int qm_top])), (qm_text, eI G 64 x19)] H _ := hw
    exact x_retvQ hQ B hw ⟨x18, x19, rfl, (by omega), (by omega)⟩ (Nat.le_of_ble_eq_true rfl) (Nat.le_of_ble_eq_true rfl) dX11_writeWord_30
set_option maxHeartbeats 4000000 in
set_option maxRecDepth 100000 in
theorem s_X11_writeWord_5 {l : Launch} {G : Gc} (qm : Nat) (a1 : Int64) (qm_thrown : Int32) (qm_tape : Nat) (qm_taped : Int32) (qm_size : Int32) (qm_limit : Int32) (qm_to : Int32) (qm_from : Int32) (qm_kind : Int32) (qm_number : Int32) (qm_sign : Int32) (qm_fault : Int32) (qm_place : Int32) (qm_word : Int64) (qm_told : Int32) (qm_now : Nat) (qm_read : Nat) (qm_kept : Nat) (qm_snaps : Nat) (qm_aside : Nat) (qm_name : Nat) (qm_readName : Nat) (qm_keptName : Nat) (qm_isKept : Nat) (qm_onces : Nat) (qm_snapMany : Int32) (qm_order : Nat) (qm_ordered : Nat) (qm_orderMany : Int32) (qm_orderMost : Int32) (qm_passing : Int32) (qm_movedWho : Int32) (qm_scratched : Int32) (qm_text : Nat) (qm_texts : Int32) (qm_seed : Int32) (qm_line : Nat) (qm_written : Nat) (qm_lineMany : Int32) (qm_hasWritten : Int32) (qm_node : Nat) (qm_nodes : Int32) (qm_onesMany : Int32) (qm_within : Int32) (qm_top : Int32) (qm_text_c : Nat → Int32) (hi_qm_texts : 0 ≤ qm_texts.toInt ∧ qm_texts.toInt ≤ 64) (hr_0 : a1.toInt < 14348907) (hr_1 : qm_texts.toInt + 5 ≤ 64) : Cv l yX11_writeWord cX11_writeWord 3 5 0 0 G [.ref qm, .long a1] [(qm, .inr (10, [.int qm_thrown, .ref qm_tape, .int qm_taped, .int qm_size, .int qm_limit, .int qm_to, .int qm_from, .int qm_kind, .int qm_number, .int qm_sign, .int qm_fault, .int qm_place, .long qm_word, .int qm_told, .ref qm_now, .ref qm_read, .ref qm_kept, .ref qm_snaps, .ref qm_aside, .ref qm_name, .ref qm_readName, .ref qm_keptName, .ref qm_isKept, .ref qm_onces, .int qm_snapMany, .ref qm_order, .ref qm_ordered, .int qm_orderMany, .int qm_orderMost, .int qm_passing, .int qm_movedWho, .int qm_scratched, .ref qm_text, .int qm_texts, .int qm_seed, .ref qm_line, .ref qm_written, .int qm_lineMany, .int qm_hasWritten, .ref qm_node, .int qm_nodes, .int qm_onesMany, .int qm_within, .int qm_top])), (qm_text, eI G 64 qm_text_c)] (fun (u9 : va_W) => ∃ (x0_qm_texts : Int32) (x1_qm_text_c : Nat → Int32), u9 = [(qm, .inr (10, [.int qm_thrown, .ref qm_tape, .int qm_taped, .int qm_size, .int qm_limit, .int qm_to, .int qm_from, .int qm_kind, .int qm_number, .int qm_sign, .int qm_fault, .int qm_place, .long qm_word, .int qm_told, .ref qm_now, .ref qm_read, .ref qm_kept, .ref qm_snaps, .ref qm_aside, .ref qm_name, .ref qm_readName, .ref qm_keptName, .ref qm_isKept, .ref qm_onces, .int qm_snapMany, .ref qm_order, .ref qm_ordered, .int qm_orderMany, .int qm_orderMost, .int qm_passing, .int qm_movedWho, .int qm_scratched, .ref qm_text, .int x0_qm_texts, .int qm_seed, .ref qm_line, .ref qm_written, .int qm_lineMany, .int qm_hasWritten, .ref qm_node, .int qm_nodes, .int qm_onesMany, .int qm_within, .int qm_top])), (qm_text, eI G 64 x1_qm_text_c)] ∧ (1 ≤ x0_qm_texts.toInt ∧ x0_qm_texts.toInt ≤ 64) ∧ (qm_texts.toInt ≤ x0_qm_texts.toInt ∧ x0_qm_texts.toInt ≤ qm_texts.toInt + 5)) := by
  refine Cv.ofQ (by decide) (Nat.le_of_ble_eq_true rfl) ?_
  intro p e s m below meth c ls A args Q hQ B hw hl
  have C : CallFix p m c cX11_writeWord 3 s args gw "LanternStateModel" := B.1
  have hl : lv_has ls 3 [(0, .ref qm), (1, .long a1)] := hl
  refine lv_lload_n C.1 C.2.1 dX11_writeWord_0 rfl (lv_at hl 1 rfl) ?_
  refine lv_ldc2 (v := 27) C.1 C.2.1 C.2.2.2.1 (C.2.2.2.2 _ kw1353) dX11_writeWord_1 ?_
  refine W.lcmp C.1 C.2.1 dX11_writeWord_4 (x_genP (fun z : Int32 => 0 ≤ z.toInt ↔ 27 ≤ a1.toInt) (l_cmp rfl rfl) (fun v1 hv1 => ?_))
  refine lv_if_lt (tgt := 17) C.1 C.2.1 dX11_writeWord_5 (by decide) (fun c2 => ?_) (fun c2 => ?_)
  · skip
    have c2 : v1.toInt < 0 := i_ltT (X := v1.toInt) (Y := 0) rfl rfl c2
    have bc2_v1 := i_bd v1
    refine lv_aload_n C.1 C.2.1 dX11_writeWord_17 rfl (lv_at hl 0 rfl) ?_
    refine lv_bipush (v := 96) C.1 C.2.1 dX11_writeWord_18 (by decide) ?_
    refine lv_lload_n C.1 C.2.1 dX11_writeWord_20 rfl (lv_at hl 1 rfl) ?_
    refine lv_ldc2 (v := 27) C.1 C.2.1 C.2.2.2.1 (C.2.2.2.2 _ kw1353) dX11_writeWord_21 ?_
    refine lv_lrem C.1 C.2.1 dX11_writeWord_24 (by decide) (x_genl (fun v3 => ?_))
    refine lv_l2i (v := v3.toInt32) C.1 C.2.1 dX11_writeWord_25 rfl (x_gen (fun v4 => ?_))
    refine lv_iadd C.1 C.2.1 dX11_writeWord_26 (x_gen (fun v5 => ?_))
    refine x_callvV (As := [.int v5]) (rest := []) (wr := []) C hw (s_X11_write qm v5 qm_thrown qm_tape qm_taped qm_size qm_limit qm_to qm_from qm_kind qm_number qm_sign qm_fault qm_place qm_word qm_told qm_now qm_read qm_kept qm_snaps qm_aside qm_name qm_readName qm_keptName qm_isKept qm_onces qm_snapMany qm_order qm_ordered qm_orderMany qm_orderMost qm_passing qm_movedWho qm_scratched qm_text qm_texts qm_seed qm_line qm_written qm_lineMany qm_hasWritten qm_node qm_nodes qm_onesMany qm_within qm_top qm_text_c (by omega) (by omega)) mwX11_write kw1675 [0, 1] [] rfl rfl rfl rfl (by decide) 0 rfl rfl rfl rfl hl.1 rfl (Nat.le_of_ble_eq_true rfl) ⟨(Nat.le_of_ble_eq_true rfl), (Nat.le_of_ble_eq_true rfl)⟩ ⟨(Nat.le_of_ble_eq_true rfl), (Nat.le_of_ble_eq_true rfl)⟩ dX11_writeWord_27 (fun  u9 H locs hp9 hw => ?_)
    obtain ⟨x6, x7, rfl, hf8, hf9⟩ := hp9
    have hw : Wd G s A [(qm, .inr (10, [.int qm_thrown, .ref qm_tape, .int qm_taped, .int qm_size, .int qm_limit, .int qm_to, .int qm_from, .int qm_kind, .int qm_number, .int qm_sign, .int qm_fault, .int qm_place, .long qm_word, .int qm_told, .ref qm_now, .ref qm_read, .ref qm_kept, .ref qm_snaps, .ref qm_aside, .ref qm_name, .ref qm_readName, .ref qm_keptName, .ref qm_isKept, .ref qm_onces, .int qm_snapMany, .ref qm_order, .ref qm_ordered, .int qm_orderMany, .int qm_orderMost, .int qm_passing, .int qm_movedWho, .int qm_scratched, .ref qm_text, .int x6, .int qm_seed, .ref qm_line, .ref qm_written, .int qm_lineMany, .int qm_hasWritten, .ref qm_node, .int qm_nodes, .int qm_onesMany, .int qm_within, .int qm_top])), (qm_text, eI G 64 x7)] H _ := hw
    exact x_retvQ hQ B hw ⟨x6, x7, rfl, (by omega), (by omega)⟩ (Nat.le_of_ble_eq_true rfl) (Nat.le_of_ble_eq_true rfl) dX11_writeWord_30
  · skip
    have c2 : 0 ≤ v1.toInt := i_ltF (X := v1.toInt) (Y := 0) rfl rfl c2
    have bc2_v1 := i_bd v1
    refine lv_aload_n C.1 C.2.1 dX11_writeWord_8 rfl (lv_at hl 0 rfl) ?_
    refine lv_lload_n C.1 C.2.1 dX11_writeWord_9 rfl (lv_at hl 1 rfl) ?_
    refine lv_ldc2 (v := 27) C.1 C.2.1 C.2.2.2.1 (C.2.2.2.2 _ kw1353) dX11_writeWord_10 ?_
    refine lv_ldiv C.1 C.2.1 dX11_writeWord_13 (by decide) (x_genlP (fun z : Int64 => z.toInt = a1.toInt / 27) (l_div27 rfl (by omega)) (fun v10 hv10 => ?_))
    refine x_callvV (As := [.long v10]) (rest := []) (wr := []) C hw (s_X11_writeWord_4 qm v10 qm_thrown qm_tape qm_taped qm_size qm_limit qm_to qm_from qm_kind qm_number qm_sign qm_fault qm_place qm_word qm_told qm_now qm_read qm_kept qm_snaps qm_aside qm_name qm_readName qm_keptName qm_isKept qm_onces qm_snapMany qm_order qm_ordered qm_orderMany qm_orderMost qm_passing qm_movedWho qm_scratched qm_text qm_texts qm_seed qm_line qm_written qm_lineMany qm_hasWritten qm_node qm_nodes qm_onesMany qm_within qm_top qm_text_c (by omega) (by omega) (by omega)) mwX11_writeWord kw1671 [0, 1] [] rfl rfl rfl rfl (by decide) 0 rfl rfl rfl rfl hl.1 rfl (Nat.le_of_ble_eq_true rfl) ⟨(Nat.le_of_ble_eq_true rfl), (Nat.le_of_ble_eq_true rfl)⟩ ⟨(Nat.le_of_ble_eq_true rfl), (Nat.le_of_ble_eq_true rfl)⟩ dX11_writeWord_14 (fun  u9 H locs hp9 hw => ?_)
    obtain ⟨x11, x12, rfl, hf13, hf14⟩ := hp9
    have hw : Wd G s A [(qm, .inr (10, [.int qm_thrown, .ref qm_tape, .int qm_taped, .int qm_size, .int qm_limit, .int qm_to, .int qm_from, .int qm_kind, .int qm_number, .int qm_sign, .int qm_fault, .int qm_place, .long qm_word, .int qm_told, .ref qm_now, .ref qm_read, .ref qm_kept, .ref qm_snaps, .ref qm_aside, .ref qm_name, .ref qm_readName, .ref qm_keptName, .ref qm_isKept, .ref qm_onces, .int qm_snapMany, .ref qm_order, .ref qm_ordered, .int qm_orderMany, .int qm_orderMost, .int qm_passing, .int qm_movedWho, .int qm_scratched, .ref qm_text, .int x11, .int qm_seed, .ref qm_line, .ref qm_written, .int qm_lineMany, .int qm_hasWritten, .ref qm_node, .int qm_nodes, .int qm_onesMany, .int qm_within, .int qm_top])), (qm_text, eI G 64 x12)] H _ := hw
    refine lv_aload_n C.1 C.2.1 dX11_writeWord_17 rfl (lv_at hl 0 rfl) ?_
    refine lv_bipush (v := 96) C.1 C.2.1 dX11_writeWord_18 (by decide) ?_
    refine lv_lload_n C.1 C.2.1 dX11_writeWord_20 rfl (lv_at hl 1 rfl) ?_
    refine lv_ldc2 (v := 27) C.1 C.2.1 C.2.2.2.1 (C.2.2.2.2 _ kw1353) dX11_writeWord_21 ?_
    refine lv_lrem C.1 C.2.1 dX11_writeWord_24 (by decide) (x_genl (fun v15 => ?_))
    refine lv_l2i (v := v15.toInt32) C.1 C.2.1 dX11_writeWord_25 rfl (x_gen (fun v16 => ?_))
    refine lv_iadd C.1 C.2.1 dX11_writeWord_26 (x_gen (fun v17 => ?_))
    refine x_callvV (As := [.int v17]) (rest := []) (wr := []) C hw (s_X11_write qm v17 qm_thrown qm_tape qm_taped qm_size qm_limit qm_to qm_from qm_kind qm_number qm_sign qm_fault qm_place qm_word qm_told qm_now qm_read qm_kept qm_snaps qm_aside qm_name qm_readName qm_keptName qm_isKept qm_onces qm_snapMany qm_order qm_ordered qm_orderMany qm_orderMost qm_passing qm_movedWho qm_scratched qm_text x11 qm_seed qm_line qm_written qm_lineMany qm_hasWritten qm_node qm_nodes qm_onesMany qm_within qm_top x12 (by omega) (by omega)) mwX11_write kw1675 [0, 1] [] rfl rfl rfl rfl (by decide) 0 rfl rfl rfl rfl hl.1 rfl (Nat.le_of_ble_eq_true rfl) ⟨(Nat.le_of_ble_eq_true rfl), (Nat.le_of_ble_eq_true rfl)⟩ ⟨(Nat.le_of_ble_eq_true rfl), (Nat.le_of_ble_eq_true rfl)⟩ dX11_writeWord_27 (fun  u9 H locs hp9 hw => ?_)
    obtain ⟨x18, x19, rfl, hf20, hf21⟩ := hp9
    have hw : Wd G s A [(qm, .inr (10, [.int qm_thrown, .ref qm_tape, .int qm_taped, .int qm_size, .int qm_limit, .int qm_to, .int qm_from, .int qm_kind, .int qm_number, .int qm_sign, .int qm_fault, .int qm_place, .long qm_word, .int qm_told, .ref qm_now, .ref qm_read, .ref qm_kept, .ref qm_snaps, .ref qm_aside, .ref qm_name, .ref qm_readName, .ref qm_keptName, .ref qm_isKept, .ref qm_onces, .int qm_snapMany, .ref qm_order, .ref qm_ordered, .int qm_orderMany, .int qm_orderMost, .int qm_passing, .int qm_movedWho, .int qm_scratched, .ref qm_text, .int x18, .int qm_seed, .ref qm_line, .ref qm_written, .int qm_lineMany, .int qm_hasWritten, .ref qm_node, .int qm_nodes, .int qm_onesMany, .int qm_within, .int qm_top])), (qm_text, eI G 64 x19)] H _ := hw
    exact x_retvQ hQ B hw ⟨x18, x19, rfl, (by omega), (by omega)⟩ (Nat.le_of_ble_eq_true rfl) (Nat.le_of_ble_eq_true rfl) dX11_writeWord_30
set_option maxHeartbeats 4000000 in
set_option maxRecDepth 100000 in
theorem s_X11_writeWord_6 {l : Launch} {G : Gc} (qm : Nat) (a1 : Int64) (qm_thrown : Int32) (qm_tape : Nat) (qm_taped : Int32) (qm_size : Int32) (qm_limit : Int32) (qm_to : Int32) (qm_from : Int32) (qm_kind : Int32) (qm_number : Int32) (qm_sign : Int32) (qm_fault : Int32) (qm_place : Int32) (qm_word : Int64) (qm_told : Int32) (qm_now : Nat) (qm_read : Nat) (qm_kept : Nat) (qm_snaps : Nat) (qm_aside : Nat) (qm_name : Nat) (qm_readName : Nat) (qm_keptName : Nat) (qm_isKept : Nat) (qm_onces : Nat) (qm_snapMany : Int32) (qm_order : Nat) (qm_ordered : Nat) (qm_orderMany : Int32) (qm_orderMost : Int32) (qm_passing : Int32) (qm_movedWho : Int32) (qm_scratched : Int32) (qm_text : Nat) (qm_texts : Int32) (qm_seed : Int32) (qm_line : Nat) (qm_written : Nat) (qm_lineMany : Int32) (qm_hasWritten : Int32) (qm_node : Nat) (qm_nodes : Int32) (qm_onesMany : Int32) (qm_within : Int32) (qm_top : Int32) (qm_text_c : Nat → Int32) (hi_qm_texts : 0 ≤ qm_texts.toInt ∧ qm_texts.toInt ≤ 64) (hr_0 : a1.toInt < 387420489) (hr_1 : qm_texts.toInt + 6 ≤ 64) : Cv l yX11_writeWord cX11_writeWord 3 6 0 0 G [.ref qm, .long a1] [(qm, .inr (10, [.int qm_thrown, .ref qm_tape, .int qm_taped, .int qm_size, .int qm_limit, .int qm_to, .int qm_from, .int qm_kind, .int qm_number, .int qm_sign, .int qm_fault, .int qm_place, .long qm_word, .int qm_told, .ref qm_now, .ref qm_read, .ref qm_kept, .ref qm_snaps, .ref qm_aside, .ref qm_name, .ref qm_readName, .ref qm_keptName, .ref qm_isKept, .ref qm_onces, .int qm_snapMany, .ref qm_order, .ref qm_ordered, .int qm_orderMany, .int qm_orderMost, .int qm_passing, .int qm_movedWho, .int qm_scratched, .ref qm_text, .int qm_texts, .int qm_seed, .ref qm_line, .ref qm_written, .int qm_lineMany, .int qm_hasWritten, .ref qm_node, .int qm_nodes, .int qm_onesMany, .int qm_within, .int qm_top])), (qm_text, eI G 64 qm_text_c)] (fun (u9 : va_W) => ∃ (x0_qm_texts : Int32) (x1_qm_text_c : Nat → Int32), u9 = [(qm, .inr (10, [.int qm_thrown, .ref qm_tape, .int qm_taped, .int qm_size, .int qm_limit, .int qm_to, .int qm_from, .int qm_kind, .int qm_number, .int qm_sign, .int qm_fault, .int qm_place, .long qm_word, .int qm_told, .ref qm_now, .ref qm_read, .ref qm_kept, .ref qm_snaps, .ref qm_aside, .ref qm_name, .ref qm_readName, .ref qm_keptName, .ref qm_isKept, .ref qm_onces, .int qm_snapMany, .ref qm_order, .ref qm_ordered, .int qm_orderMany, .int qm_orderMost, .int qm_passing, .int qm_movedWho, .int qm_scratched, .ref qm_text, .int x0_qm_texts, .int qm_seed, .ref qm_line, .ref qm_written, .int qm_lineMany, .int qm_hasWritten, .ref qm_node, .int qm_nodes, .int qm_onesMany, .int qm_within, .int qm_top])), (qm_text, eI G 64 x1_qm_text_c)] ∧ (1 ≤ x0_qm_texts.toInt ∧ x0_qm_texts.toInt ≤ 64) ∧ (qm_texts.toInt ≤ x0_qm_texts.toInt ∧ x0_qm_texts.toInt ≤ qm_texts.toInt + 6)) := by
  refine Cv.ofQ (by decide) (Nat.le_of_ble_eq_true rfl) ?_
  intro p e s m below meth c ls A args Q hQ B hw hl
  have C : CallFix p m c cX11_writeWord 3 s args gw "LanternStateModel" := B.1
  have hl : lv_has ls 3 [(0, .ref qm), (1, .long a1)] := hl
  refine lv_lload_n C.1 C.2.1 dX11_writeWord_0 rfl (lv_at hl 1 rfl) ?_
  refine lv_ldc2 (v := 27) C.1 C.2.1 C.2.2.2.1 (C.2.2.2.2 _ kw1353) dX11_writeWord_1 ?_
  refine W.lcmp C.1 C.2.1 dX11_writeWord_4 (x_genP (fun z : Int32 => 0 ≤ z.toInt ↔ 27 ≤ a1.toInt) (l_cmp rfl rfl) (fun v1 hv1 => ?_))
  refine lv_if_lt (tgt := 17) C.1 C.2.1 dX11_writeWord_5 (by decide) (fun c2 => ?_) (fun c2 => ?_)
  · skip
    have c2 : v1.toInt < 0 := i_ltT (X := v1.toInt) (Y := 0) rfl rfl c2
    have bc2_v1 := i_bd v1
    refine lv_aload_n C.1 C.2.1 dX11_writeWord_17 rfl (lv_at hl 0 rfl) ?_
    refine lv_bipush (v := 96) C.1 C.2.1 dX11_writeWord_18 (by decide) ?_
    refine lv_lload_n C.1 C.2.1 dX11_writeWord_20 rfl (lv_at hl 1 rfl) ?_
    refine lv_ldc2 (v := 27) C.1 C.2.1 C.2.2.2.1 (C.2.2.2.2 _ kw1353) dX11_writeWord_21 ?_
    refine lv_lrem C.1 C.2.1 dX11_writeWord_24 (by decide) (x_genl (fun v3 => ?_))
    refine lv_l2i (v := v3.toInt32) C.1 C.2.1 dX11_writeWord_25 rfl (x_gen (fun v4 => ?_))
    refine lv_iadd C.1 C.2.1 dX11_writeWord_26 (x_gen (fun v5 => ?_))
    refine x_callvV (As := [.int v5]) (rest := []) (wr := []) C hw (s_X11_write qm v5 qm_thrown qm_tape qm_taped qm_size qm_limit qm_to qm_from qm_kind qm_number qm_sign qm_fault qm_place qm_word qm_told qm_now qm_read qm_kept qm_snaps qm_aside qm_name qm_readName qm_keptName qm_isKept qm_onces qm_snapMany qm_order qm_ordered qm_orderMany qm_orderMost qm_passing qm_movedWho qm_scratched qm_text qm_texts qm_seed qm_line qm_written qm_lineMany qm_hasWritten qm_node qm_nodes qm_onesMany qm_within qm_top qm_text_c (by omega) (by omega)) mwX11_write kw1675 [0, 1] [] rfl rfl rfl rfl (by decide) 0 rfl rfl rfl rfl hl.1 rfl (Nat.le_of_ble_eq_true rfl) ⟨(Nat.le_of_ble_eq_true rfl), (Nat.le_of_ble_eq_true rfl)⟩ ⟨(Nat.le_of_ble_eq_true rfl), (Nat.le_of_ble_eq_true rfl)⟩ dX11_writeWord_27 (fun  u9 H locs hp9 hw => ?_)
    obtain ⟨x6, x7, rfl, hf8, hf9⟩ := hp9
    have hw : Wd G s A [(qm, .inr (10, [.int qm_thrown, .ref qm_tape, .int qm_taped, .int qm_size, .int qm_limit, .int qm_to, .int qm_from, .int qm_kind, .int qm_number, .int qm_sign, .int qm_fault, .int qm_place, .long qm_word, .int qm_told, .ref qm_now, .ref qm_read, .ref qm_kept, .ref qm_snaps, .ref qm_aside, .ref qm_name, .ref qm_readName, .ref qm_keptName, .ref qm_isKept, .ref qm_onces, .int qm_snapMany, .ref qm_order, .ref qm_ordered, .int qm_orderMany, .int qm_orderMost, .int qm_passing, .int qm_movedWho, .int qm_scratched, .ref qm_text, .int x6, .int qm_seed, .ref qm_line, .ref qm_written, .int qm_lineMany, .int qm_hasWritten, .ref qm_node, .int qm_nodes, .int qm_onesMany, .int qm_within, .int qm_top])), (qm_text, eI G 64 x7)] H _ := hw
    exact x_retvQ hQ B hw ⟨x6, x7, rfl, (by omega), (by omega)⟩ (Nat.le_of_ble_eq_true rfl) (Nat.le_of_ble_eq_true rfl) dX11_writeWord_30
  · skip
    have c2 : 0 ≤ v1.toInt := i_ltF (X := v1.toInt) (Y := 0) rfl rfl c2
    have bc2_v1 := i_bd v1
    refine lv_aload_n C.1 C.2.1 dX11_writeWord_8 rfl (lv_at hl 0 rfl) ?_
    refine lv_lload_n C.1 C.2.1 dX11_writeWord_9 rfl (lv_at hl 1 rfl) ?_
    refine lv_ldc2 (v := 27) C.1 C.2.1 C.2.2.2.1 (C.2.2.2.2 _ kw1353) dX11_writeWord_10 ?_
    refine lv_ldiv C.1 C.2.1 dX11_writeWord_13 (by decide) (x_genlP (fun z : Int64 => z.toInt = a1.toInt / 27) (l_div27 rfl (by omega)) (fun v10 hv10 => ?_))
    refine x_callvV (As := [.long v10]) (rest := []) (wr := []) C hw (s_X11_writeWord_5 qm v10 qm_thrown qm_tape qm_taped qm_size qm_limit qm_to qm_from qm_kind qm_number qm_sign qm_fault qm_place qm_word qm_told qm_now qm_read qm_kept qm_snaps qm_aside qm_name qm_readName qm_keptName qm_isKept qm_onces qm_snapMany qm_order qm_ordered qm_orderMany qm_orderMost qm_passing qm_movedWho qm_scratched qm_text qm_texts qm_seed qm_line qm_written qm_lineMany qm_hasWritten qm_node qm_nodes qm_onesMany qm_within qm_top qm_text_c (by omega) (by omega) (by omega)) mwX11_writeWord kw1671 [0, 1] [] rfl rfl rfl rfl (by decide) 0 rfl rfl rfl rfl hl.1 rfl (Nat.le_of_ble_eq_true rfl) ⟨(Nat.le_of_ble_eq_true rfl), (Nat.le_of_ble_eq_true rfl)⟩ ⟨(Nat.le_of_ble_eq_true rfl), (Nat.le_of_ble_eq_true rfl)⟩ dX11_writeWord_14 (fun  u9 H locs hp9 hw => ?_)
    obtain ⟨x11, x12, rfl, hf13, hf14⟩ := hp9
    have hw : Wd G s A [(qm, .inr (10, [.int qm_thrown, .ref qm_tape, .int qm_taped, .int qm_size, .int qm_limit, .int qm_to, .int qm_from, .int qm_kind, .int qm_number, .int qm_sign, .int qm_fault, .int qm_place, .long qm_word, .int qm_told, .ref qm_now, .ref qm_read, .ref qm_kept, .ref qm_snaps, .ref qm_aside, .ref qm_name, .ref qm_readName, .ref qm_keptName, .ref qm_isKept, .ref qm_onces, .int qm_snapMany, .ref qm_order, .ref qm_ordered, .int qm_orderMany, .int qm_orderMost, .int qm_passing, .int qm_movedWho, .int qm_scratched, .ref qm_text, .int x11, .int qm_seed, .ref qm_line, .ref qm_written, .int qm_lineMany, .int qm_hasWritten, .ref qm_node, .int qm_nodes, .int qm_onesMany, .int qm_within, .int qm_top])), (qm_text, eI G 64 x12)] H _ := hw
    refine lv_aload_n C.1 C.2.1 dX11_writeWord_17 rfl (lv_at hl 0 rfl) ?_
    refine lv_bipush (v := 96) C.1 C.2.1 dX11_writeWord_18 (by decide) ?_
    refine lv_lload_n C.1 C.2.1 dX11_writeWord_20 rfl (lv_at hl 1 rfl) ?_
    refine lv_ldc2 (v := 27) C.1 C.2.1 C.2.2.2.1 (C.2.2.2.2 _ kw1353) dX11_writeWord_21 ?_
    refine lv_lrem C.1 C.2.1 dX11_writeWord_24 (by decide) (x_genl (fun v15 => ?_))
    refine lv_l2i (v := v15.toInt32) C.1 C.2.1 dX11_writeWord_25 rfl (x_gen (fun v16 => ?_))
    refine lv_iadd C.1 C.2.1 dX11_writeWord_26 (x_gen (fun v17 => ?_))
    refine x_callvV (As := [.int v17]) (rest := []) (wr := []) C hw (s_X11_write qm v17 qm_thrown qm_tape qm_taped qm_size qm_limit qm_to qm_from qm_kind qm_number qm_sign qm_fault qm_place qm_word qm_told qm_now qm_read qm_kept qm_snaps qm_aside qm_name qm_readName qm_keptName qm_isKept qm_onces qm_snapMany qm_order qm_ordered qm_orderMany qm_orderMost qm_passing qm_movedWho qm_scratched qm_text x11 qm_seed qm_line qm_written qm_lineMany qm_hasWritten qm_node qm_nodes qm_onesMany qm_within qm_top x12 (by omega) (by omega)) mwX11_write kw1675 [0, 1] [] rfl rfl rfl rfl (by decide) 0 rfl rfl rfl rfl hl.1 rfl (Nat.le_of_ble_eq_true rfl) ⟨(Nat.le_of_ble_eq_true rfl), (Nat.le_of_ble_eq_true rfl)⟩ ⟨(Nat.le_of_ble_eq_true rfl), (Nat.le_of_ble_eq_true rfl)⟩ dX11_writeWord_27 (fun  u9 H locs hp9 hw => ?_)
    obtain ⟨x18, x19, rfl, hf20, hf21⟩ := hp9
    have hw : Wd G s A [(qm, .inr (10, [.int qm_thrown, .ref qm_tape, .int qm_taped, .int qm_size, .int qm_limit, .int qm_to, .int qm_from, .int qm_kind, .int qm_number, .int qm_sign, .int qm_fault, .int qm_place, .long qm_word, .int qm_told, .ref qm_now, .ref qm_read, .ref qm_kept, .ref qm_snaps, .ref qm_aside, .ref qm_name, .ref qm_readName, .ref qm_keptName, .ref qm_isKept, .ref qm_onces, .int qm_snapMany, .ref qm_order, .ref qm_ordered, .int qm_orderMany, .int qm_orderMost, .int qm_passing, .int qm_movedWho, .int qm_scratched, .ref qm_text, .int x18, .int qm_seed, .ref qm_line, .ref qm_written, .int qm_lineMany, .int qm_hasWritten, .ref qm_node, .int qm_nodes, .int qm_onesMany, .int qm_within, .int qm_top])), (qm_text, eI G 64 x19)] H _ := hw
    exact x_retvQ hQ B hw ⟨x18, x19, rfl, (by omega), (by omega)⟩ (Nat.le_of_ble_eq_true rfl) (Nat.le_of_ble_eq_true rfl) dX11_writeWord_30
set_option maxHeartbeats 4000000 in
set_option maxRecDepth 100000 in
theorem s_X11_writeWord_7 {l : Launch} {G : Gc} (qm : Nat) (a1 : Int64) (qm_thrown : Int32) (qm_tape : Nat) (qm_taped : Int32) (qm_size : Int32) (qm_limit : Int32) (qm_to : Int32) (qm_from : Int32) (qm_kind : Int32) (qm_number : Int32) (qm_sign : Int32) (qm_fault : Int32) (qm_place : Int32) (qm_word : Int64) (qm_told : Int32) (qm_now : Nat) (qm_read : Nat) (qm_kept : Nat) (qm_snaps : Nat) (qm_aside : Nat) (qm_name : Nat) (qm_readName : Nat) (qm_keptName : Nat) (qm_isKept : Nat) (qm_onces : Nat) (qm_snapMany : Int32) (qm_order : Nat) (qm_ordered : Nat) (qm_orderMany : Int32) (qm_orderMost : Int32) (qm_passing : Int32) (qm_movedWho : Int32) (qm_scratched : Int32) (qm_text : Nat) (qm_texts : Int32) (qm_seed : Int32) (qm_line : Nat) (qm_written : Nat) (qm_lineMany : Int32) (qm_hasWritten : Int32) (qm_node : Nat) (qm_nodes : Int32) (qm_onesMany : Int32) (qm_within : Int32) (qm_top : Int32) (qm_text_c : Nat → Int32) (hi_qm_texts : 0 ≤ qm_texts.toInt ∧ qm_texts.toInt ≤ 64) (hr_0 : a1.toInt < 10460353203) (hr_1 : qm_texts.toInt + 7 ≤ 64) : Cv l yX11_writeWord cX11_writeWord 3 7 0 0 G [.ref qm, .long a1] [(qm, .inr (10, [.int qm_thrown, .ref qm_tape, .int qm_taped, .int qm_size, .int qm_limit, .int qm_to, .int qm_from, .int qm_kind, .int qm_number, .int qm_sign, .int qm_fault, .int qm_place, .long qm_word, .int qm_told, .ref qm_now, .ref qm_read, .ref qm_kept, .ref qm_snaps, .ref qm_aside, .ref qm_name, .ref qm_readName, .ref qm_keptName, .ref qm_isKept, .ref qm_onces, .int qm_snapMany, .ref qm_order, .ref qm_ordered, .int qm_orderMany, .int qm_orderMost, .int qm_passing, .int qm_movedWho, .int qm_scratched, .ref qm_text, .int qm_texts, .int qm_seed, .ref qm_line, .ref qm_written, .int qm_lineMany, .int qm_hasWritten, .ref qm_node, .int qm_nodes, .int qm_onesMany, .int qm_within, .int qm_top])), (qm_text, eI G 64 qm_text_c)] (fun (u9 : va_W) => ∃ (x0_qm_texts : Int32) (x1_qm_text_c : Nat → Int32), u9 = [(qm, .inr (10, [.int qm_thrown, .ref qm_tape, .int qm_taped, .int qm_size, .int qm_limit, .int qm_to, .int qm_from, .int qm_kind, .int qm_number, .int qm_sign, .int qm_fault, .int qm_place, .long qm_word, .int qm_told, .ref qm_now, .ref qm_read, .ref qm_kept, .ref qm_snaps, .ref qm_aside, .ref qm_name, .ref qm_readName, .ref qm_keptName, .ref qm_isKept, .ref qm_onces, .int qm_snapMany, .ref qm_order, .ref qm_ordered, .int qm_orderMany, .int qm_orderMost, .int qm_passing, .int qm_movedWho, .int qm_scratched, .ref qm_text, .int x0_qm_texts, .int qm_seed, .ref qm_line, .ref qm_written, .int qm_lineMany, .int qm_hasWritten, .ref qm_node, .int qm_nodes, .int qm_onesMany, .int qm_within, .int qm_top])), (qm_text, eI G 64 x1_qm_text_c)] ∧ (1 ≤ x0_qm_texts.toInt ∧ x0_qm_texts.toInt ≤ 64) ∧ (qm_texts.toInt ≤ x0_qm_texts.toInt ∧ x0_qm_texts.toInt ≤ qm_texts.toInt + 7)) := by
  refine Cv.ofQ (by decide) (Nat.le_of_ble_eq_true rfl) ?_
  intro p e s m below meth c ls A args Q hQ B hw hl
  have C : CallFix p m c cX11_writeWord 3 s args gw "LanternStateModel" := B.1
  have hl : lv_has ls 3 [(0, .ref qm), (1, .long a1)] := hl
  refine lv_lload_n C.1 C.2.1 dX11_writeWord_0 rfl (lv_at hl 1 rfl) ?_
  refine lv_ldc2 (v := 27) C.1 C.2.1 C.2.2.2.1 (C.2.2.2.2 _ kw1353) dX11_writeWord_1 ?_
  refine W.lcmp C.1 C.2.1 dX11_writeWord_4 (x_genP (fun z : Int32 => 0 ≤ z.toInt ↔ 27 ≤ a1.toInt) (l_cmp rfl rfl) (fun v1 hv1 => ?_))
  refine lv_if_lt (tgt := 17) C.1 C.2.1 dX11_writeWord_5 (by decide) (fun c2 => ?_) (fun c2 => ?_)
  · skip
    have c2 : v1.toInt < 0 := i_ltT (X := v1.toInt) (Y := 0) rfl rfl c2
    have bc2_v1 := i_bd v1
    refine lv_aload_n C.1 C.2.1 dX11_writeWord_17 rfl (lv_at hl 0 rfl) ?_
    refine lv_bipush (v := 96) C.1 C.2.1 dX11_writeWord_18 (by decide) ?_
    refine lv_lload_n C.1 C.2.1 dX11_writeWord_20 rfl (lv_at hl 1 rfl) ?_
    refine lv_ldc2 (v := 27) C.1 C.2.1 C.2.2.2.1 (C.2.2.2.2 _ kw1353) dX11_writeWord_21 ?_
    refine lv_lrem C.1 C.2.1 dX11_writeWord_24 (by decide) (x_genl (fun v3 => ?_))
    refine lv_l2i (v := v3.toInt32) C.1 C.2.1 dX11_writeWord_25 rfl (x_gen (fun v4 => ?_))
    refine lv_iadd C.1 C.2.1 dX11_writeWord_26 (x_gen (fun v5 => ?_))
    refine x_callvV (As := [.int v5]) (rest := []) (wr := []) C hw (s_X11_write qm v5 qm_thrown qm_tape qm_taped qm_size qm_limit qm_to qm_from qm_kind qm_number qm_sign qm_fault qm_place qm_word qm_told qm_now qm_read qm_kept qm_snaps qm_aside qm_name qm_readName qm_keptName qm_isKept qm_onces qm_snapMany qm_order qm_ordered qm_orderMany qm_orderMost qm_passing qm_movedWho qm_scratched qm_text qm_texts qm_seed qm_line qm_written qm_lineMany qm_hasWritten qm_node qm_nodes qm_onesMany qm_within qm_top qm_text_c (by omega) (by omega)) mwX11_write kw1675 [0, 1] [] rfl rfl rfl rfl (by decide) 0 rfl rfl rfl rfl hl.1 rfl (Nat.le_of_ble_eq_true rfl) ⟨(Nat.le_of_ble_eq_true rfl), (Nat.le_of_ble_eq_true rfl)⟩ ⟨(Nat.le_of_ble_eq_true rfl), (Nat.le_of_ble_eq_true rfl)⟩ dX11_writeWord_27 (fun  u9 H locs hp9 hw => ?_)
    obtain ⟨x6, x7, rfl, hf8, hf9⟩ := hp9
    have hw : Wd G s A [(qm, .inr (10, [.int qm_thrown, .ref qm_tape, .int qm_taped, .int qm_size, .int qm_limit, .int qm_to, .int qm_from, .int qm_kind, .int qm_number, .int qm_sign, .int qm_fault, .int qm_place, .long qm_word, .int qm_told, .ref qm_now, .ref qm_read, .ref qm_kept, .ref qm_snaps, .ref qm_aside, .ref qm_name, .ref qm_readName, .ref qm_keptName, .ref qm_isKept, .ref qm_onces, .int qm_snapMany, .ref qm_order, .ref qm_ordered, .int qm_orderMany, .int qm_orderMost, .int qm_passing, .int qm_movedWho, .int qm_scratched, .ref qm_text, .int x6, .int qm_seed, .ref qm_line, .ref qm_written, .int qm_lineMany, .int qm_hasWritten, .ref qm_node, .int qm_nodes, .int qm_onesMany, .int qm_within, .int qm_top])), (qm_text, eI G 64 x7)] H _ := hw
    exact x_retvQ hQ B hw ⟨x6, x7, rfl, (by omega), (by omega)⟩ (Nat.le_of_ble_eq_true rfl) (Nat.le_of_ble_eq_true rfl) dX11_writeWord_30
  · skip
    have c2 : 0 ≤ v1.toInt := i_ltF (X := v1.toInt) (Y := 0) rfl rfl c2
    have bc2_v1 := i_bd v1
    refine lv_aload_n C.1 C.2.1 dX11_writeWord_8 rfl (lv_at hl 0 rfl) ?_
    refine lv_lload_n C.1 C.2.1 dX11_writeWord_9 rfl (lv_at hl 1 rfl) ?_
    refine lv_ldc2 (v := 27) C.1 C.2.1 C.2.2.2.1 (C.2.2.2.2 _ kw1353) dX11_writeWord_10 ?_
    refine lv_ldiv C.1 C.2.1 dX11_writeWord_13 (by decide) (x_genlP (fun z : Int64 => z.toInt = a1.toInt / 27) (l_div27 rfl (by omega)) (fun v10 hv10 => ?_))
    refine x_callvV (As := [.long v10]) (rest := []) (wr := []) C hw (s_X11_writeWord_6 qm v10 qm_thrown qm_tape qm_taped qm_size qm_limit qm_to qm_from qm_kind qm_number qm_sign qm_fault qm_place qm_word qm_told qm_now qm_read qm_kept qm_snaps qm_aside qm_name qm_readName qm_keptName qm_isKept qm_onces qm_snapMany qm_order qm_ordered qm_orderMany qm_orderMost qm_passing qm_movedWho qm_scratched qm_text qm_texts qm_seed qm_line qm_written qm_lineMany qm_hasWritten qm_node qm_nodes qm_onesMany qm_within qm_top qm_text_c (by omega) (by omega) (by omega)) mwX11_writeWord kw1671 [0, 1] [] rfl rfl rfl rfl (by decide) 0 rfl rfl rfl rfl hl.1 rfl (Nat.le_of_ble_eq_true rfl) ⟨(Nat.le_of_ble_eq_true rfl), (Nat.le_of_ble_eq_true rfl)⟩ ⟨(Nat.le_of_ble_eq_true rfl), (Nat.le_of_ble_eq_true rfl)⟩ dX11_writeWord_14 (fun  u9 H locs hp9 hw => ?_)
    obtain ⟨x11, x12, rfl, hf13, hf14⟩ := hp9
    have hw : Wd G s A [(qm, .inr (10, [.int qm_thrown, .ref qm_tape, .int qm_taped, .int qm_size, .int qm_limit, .int qm_to, .int qm_from, .int qm_kind, .int qm_number, .int qm_sign, .int qm_fault, .int qm_place, .long qm_word, .int qm_told, .ref qm_now, .ref qm_read, .ref qm_kept, .ref qm_snaps, .ref qm_aside, .ref qm_name, .ref qm_readName, .ref qm_keptName, .ref qm_isKept, .ref qm_onces, .int qm_snapMany, .ref qm_order, .ref qm_ordered, .int qm_orderMany, .int qm_orderMost, .int qm_passing, .int qm_movedWho, .int qm_scratched, .ref qm_text, .int x11, .int qm_seed, .ref qm_line, .ref qm_written, .int qm_lineMany, .int qm_hasWritten, .ref qm_node, .int qm_nodes, .int qm_onesMany, .int qm_within, .int qm_top])), (qm_text, eI G 64 x12)] H _ := hw
    refine lv_aload_n C.1 C.2.1 dX11_writeWord_17 rfl (lv_at hl 0 rfl) ?_
    refine lv_bipush (v := 96) C.1 C.2.1 dX11_writeWord_18 (by decide) ?_
    refine lv_lload_n C.1 C.2.1 dX11_writeWord_20 rfl (lv_at hl 1 rfl) ?_
    refine lv_ldc2 (v := 27) C.1 C.2.1 C.2.2.2.1 (C.2.2.2.2 _ kw1353) dX11_writeWord_21 ?_
    refine lv_lrem C.1 C.2.1 dX11_writeWord_24 (by decide) (x_genl (fun v15 => ?_))
    refine lv_l2i (v := v15.toInt32) C.1 C.2.1 dX11_writeWord_25 rfl (x_gen (fun v16 => ?_))
    refine lv_iadd C.1 C.2.1 dX11_writeWord_26 (x_gen (fun v17 => ?_))
    refine x_callvV (As := [.int v17]) (rest := []) (wr := []) C hw (s_X11_write qm v17 qm_thrown qm_tape qm_taped qm_size qm_limit qm_to qm_from qm_kind qm_number qm_sign qm_fault qm_place qm_word qm_told qm_now qm_read qm_kept qm_snaps qm_aside qm_name qm_readName qm_keptName qm_isKept qm_onces qm_snapMany qm_order qm_ordered qm_orderMany qm_orderMost qm_passing qm_movedWho qm_scratched qm_text x11 qm_seed qm_line qm_written qm_lineMany qm_hasWritten qm_node qm_nodes qm_onesMany qm_within qm_top x12 (by omega) (by omega)) mwX11_write kw1675 [0, 1] [] rfl rfl rfl rfl (by decide) 0 rfl rfl rfl rfl hl.1 rfl (Nat.le_of_ble_eq_true rfl) ⟨(Nat.le_of_ble_eq_true rfl), (Nat.le_of_ble_eq_true rfl)⟩ ⟨(Nat.le_of_ble_eq_true rfl), (Nat.le_of_ble_eq_true rfl)⟩ dX11_writeWord_27 (fun  u9 H locs hp9 hw => ?_)
    obtain ⟨x18, x19, rfl, hf20, hf21⟩ := hp9
    have hw : Wd G s A [(qm, .inr (10, [.int qm_thrown, .ref qm_tape, .int qm_taped, .int qm_size, .int qm_limit, .int qm_to, .int qm_from, .int qm_kind, .int qm_number, .int qm_sign, .int qm_fault, .int qm_place, .long qm_word, .int qm_told, .ref qm_now, .ref qm_read, .ref qm_kept, .ref qm_snaps, .ref qm_aside, .ref qm_name, .ref qm_readName, .ref qm_keptName, .ref qm_isKept, .ref qm_onces, .int qm_snapMany, .ref qm_order, .ref qm_ordered, .int qm_orderMany, .int qm_orderMost, .int qm_passing, .int qm_movedWho, .int qm_scratched, .ref qm_text, .int x18, .int qm_seed, .ref qm_line, .ref qm_written, .int qm_lineMany, .int qm_hasWritten, .ref qm_node, .int qm_nodes, .int qm_onesMany, .int qm_within, .int qm_top])), (qm_text, eI G 64 x19)] H _ := hw
    exact x_retvQ hQ B hw ⟨x18, x19, rfl, (by omega), (by omega)⟩ (Nat.le_of_ble_eq_true rfl) (Nat.le_of_ble_eq_true rfl) dX11_writeWord_30
set_option maxHeartbeats 4000000 in
set_option maxRecDepth 100000 in
theorem s_X11_writeWord_8 {l : Launch} {G : Gc} (qm : Nat) (a1 : Int64) (qm_thrown : Int32) (qm_tape : Nat) (qm_taped : Int32) (qm_size : Int32) (qm_limit : Int32) (qm_to : Int32) (qm_from : Int32) (qm_kind : Int32) (qm_number : Int32) (qm_sign : Int32) (qm_fault : Int32) (qm_place : Int32) (qm_word : Int64) (qm_told : Int32) (qm_now : Nat) (qm_read : Nat) (qm_kept : Nat) (qm_snaps : Nat) (qm_aside : Nat) (qm_name : Nat) (qm_readName : Nat) (qm_keptName : Nat) (qm_isKept : Nat) (qm_onces : Nat) (qm_snapMany : Int32) (qm_order : Nat) (qm_ordered : Nat) (qm_orderMany : Int32) (qm_orderMost : Int32) (qm_passing : Int32) (qm_movedWho : Int32) (qm_scratched : Int32) (qm_text : Nat) (qm_texts : Int32) (qm_seed : Int32) (qm_line : Nat) (qm_written : Nat) (qm_lineMany : Int32) (qm_hasWritten : Int32) (qm_node : Nat) (qm_nodes : Int32) (qm_onesMany : Int32) (qm_within : Int32) (qm_top : Int32) (qm_text_c : Nat → Int32) (hi_qm_texts : 0 ≤ qm_texts.toInt ∧ qm_texts.toInt ≤ 64) (hr_0 : a1.toInt < 282429536481) (hr_1 : qm_texts.toInt + 8 ≤ 64) : Cv l yX11_writeWord cX11_writeWord 3 8 0 0 G [.ref qm, .long a1] [(qm, .inr (10, [.int qm_thrown, .ref qm_tape, .int qm_taped, .int qm_size, .int qm_limit, .int qm_to, .int qm_from, .int qm_kind, .int qm_number, .int qm_sign, .int qm_fault, .int qm_place, .long qm_word, .int qm_told, .ref qm_now, .ref qm_read, .ref qm_kept, .ref qm_snaps, .ref qm_aside, .ref qm_name, .ref qm_readName, .ref qm_keptName, .ref qm_isKept, .ref qm_onces, .int qm_snapMany, .ref qm_order, .ref qm_ordered, .int qm_orderMany, .int qm_orderMost, .int qm_passing, .int qm_movedWho, .int qm_scratched, .ref qm_text, .int qm_texts, .int qm_seed, .ref qm_line, .ref qm_written, .int qm_lineMany, .int qm_hasWritten, .ref qm_node, .int qm_nodes, .int qm_onesMany, .int qm_within, .int qm_top])), (qm_text, eI G 64 qm_text_c)] (fun (u9 : va_W) => ∃ (x0_qm_texts : Int32) (x1_qm_text_c : Nat → Int32), u9 = [(qm, .inr (10, [.int qm_thrown, .ref qm_tape, .int qm_taped, .int qm_size, .int qm_limit, .int qm_to, .int qm_from, .int qm_kind, .int qm_number, .int qm_sign, .int qm_fault, .int qm_place, .long qm_word, .int qm_told, .ref qm_now, .ref qm_read, .ref qm_kept, .ref qm_snaps, .ref qm_aside, .ref qm_name, .ref qm_readName, .ref qm_keptName, .ref qm_isKept, .ref qm_onces, .int qm_snapMany, .ref qm_order, .ref qm_ordered, .int qm_orderMany, .int qm_orderMost, .int qm_passing, .int qm_movedWho, .int qm_scratched, .ref qm_text, .int x0_qm_texts, .int qm_seed, .ref qm_line, .ref qm_written, .int qm_lineMany, .int qm_hasWritten, .ref qm_node, .int qm_nodes, .int qm_onesMany, .int qm_within, .int qm_top])), (qm_text, eI G 64 x1_qm_text_c)] ∧ (1 ≤ x0_qm_texts.toInt ∧ x0_qm_texts.toInt ≤ 64) ∧ (qm_texts.toInt ≤ x0_qm_texts.toInt ∧ x0_qm_texts.toInt ≤ qm_texts.toInt + 8)) := by
  refine Cv.ofQ (by decide) (Nat.le_of_ble_eq_true rfl) ?_
  intro p e s m below meth c ls A args Q hQ B hw hl
  have C : CallFix p m c cX11_writeWord 3 s args gw "LanternStateModel" := B.1
  have hl : lv_has ls 3 [(0, .ref qm), (1, .long a1)] := hl
  refine lv_lload_n C.1 C.2.1 dX11_writeWord_0 rfl (lv_at hl 1 rfl) ?_
  refine lv_ldc2 (v := 27) C.1 C.2.1 C.2.2.2.1 (C.2.2.2.2 _ kw1353) dX11_writeWord_1 ?_
  refine W.lcmp C.1 C.2.1 dX11_writeWord_4 (x_genP (fun z : Int32 => 0 ≤ z.toInt ↔ 27 ≤ a1.toInt) (l_cmp rfl rfl) (fun v1 hv1 => ?_))
  refine lv_if_lt (tgt := 17) C.1 C.2.1 dX11_writeWord_5 (by decide) (fun c2 => ?_) (fun c2 => ?_)
  · skip
    have c2 : v1.toInt < 0 := i_ltT (X := v1.toInt) (Y := 0) rfl rfl c2
    have bc2_v1 := i_bd v1
    refine lv_aload_n C.1 C.2.1 dX11_writeWord_17 rfl (lv_at hl 0 rfl) ?_
    refine lv_bipush (v := 96) C.1 C.2.1 dX11_writeWord_18 (by decide) ?_
    refine lv_lload_n C.1 C.2.1 dX11_writeWord_20 rfl (lv_at hl 1 rfl) ?_
    refine lv_ldc2 (v := 27) C.1 C.2.1 C.2.2.2.1 (C.2.2.2.2 _ kw1353) dX11_writeWord_21 ?_
    refine lv_lrem C.1 C.2.1 dX11_writeWord_24 (by decide) (x_genl (fun v3 => ?_))
    refine lv_l2i (v := v3.toInt32) C.1 C.2.1 dX11_writeWord_25 rfl (x_gen (fun v4 => ?_))
    refine lv_iadd C.1 C.2.1 dX11_writeWord_26 (x_gen (fun v5 => ?_))
    refine x_callvV (As := [.int v5]) (rest := []) (wr := []) C hw (s_X11_write qm v5 qm_thrown qm_tape qm_taped qm_size qm_limit qm_to qm_from qm_kind qm_number qm_sign qm_fault qm_place qm_word qm_told qm_now qm_read qm_kept qm_snaps qm_aside qm_name qm_readName qm_keptName qm_isKept qm_onces qm_snapMany qm_order qm_ordered qm_orderMany qm_orderMost qm_passing qm_movedWho qm_scratched qm_text qm_texts qm_seed qm_line qm_written qm_lineMany qm_hasWritten qm_node qm_nodes qm_onesMany qm_within qm_top qm_text_c (by omega) (by omega)) mwX11_write kw1675 [0, 1] [] rfl rfl rfl rfl (by decide) 0 rfl rfl rfl rfl hl.1 rfl (Nat.le_of_ble_eq_true rfl) ⟨(Nat.le_of_ble_eq_true rfl), (Nat.le_of_ble_eq_true rfl)⟩ ⟨(Nat.le_of_ble_eq_true rfl), (Nat.le_of_ble_eq_true rfl)⟩ dX11_writeWord_27 (fun  u9 H locs hp9 hw => ?_)
    obtain ⟨x6, x7, rfl, hf8, hf9⟩ := hp9
    have hw : Wd G s A [(qm, .inr (10, [.int qm_thrown, .ref qm_tape, .int qm_taped, .int qm_size, .int qm_limit, .int qm_to, .int qm_from, .int qm_kind, .int qm_number, .int qm_sign, .int qm_fault, .int qm_place, .long qm_word, .int qm_told, .ref qm_now, .ref qm_read, .ref qm_kept, .ref qm_snaps, .ref qm_aside, .ref qm_name, .ref qm_readName, .ref qm_keptName, .ref qm_isKept, .ref qm_onces, .int qm_snapMany, .ref qm_order, .ref qm_ordered, .int qm_orderMany, .int qm_orderMost, .int qm_passing, .int qm_movedWho, .int qm_scratched, .ref qm_text, .int x6, .int qm_seed, .ref qm_line, .ref qm_written, .int qm_lineMany, .int qm_hasWritten, .ref qm_node, .int qm_nodes, .int qm_onesMany, .int qm_within, .int qm_top])), (qm_text, eI G 64 x7)] H _ := hw
    exact x_retvQ hQ B hw ⟨x6, x7, rfl, (by omega), (by omega)⟩ (Nat.le_of_ble_eq_true rfl) (Nat.le_of_ble_eq_true rfl) dX11_writeWord_30
  · skip
    have c2 : 0 ≤ v1.toInt := i_ltF (X := v1.toInt) (Y := 0) rfl rfl c2
    have bc2_v1 := i_bd v1
    refine lv_aload_n C.1 C.2.1 dX11_writeWord_8 rfl (lv_at hl 0 rfl) ?_
    refine lv_lload_n C.1 C.2.1 dX11_writeWord_9 rfl (lv_at hl 1 rfl) ?_
    refine lv_ldc2 (v := 27) C.1 C.2.1 C.2.2.2.1 (C.2.2.2.2 _ kw1353) dX11_writeWord_10 ?_
    refine lv_ldiv C.1 C.2.1 dX11_writeWord_13 (by decide) (x_genlP (fun z : Int64 => z.toInt = a1.toInt / 27) (l_div27 rfl (by omega)) (fun v10 hv10 => ?_))
    refine x_callvV (As := [.long v10]) (rest := []) (wr := []) C hw (s_X11_writeWord_7 qm v10 qm_thrown qm_tape qm_taped qm_size qm_limit qm_to qm_from qm_kind qm_number qm_sign qm_fault qm_place qm_word qm_told qm_now qm_read qm_kept qm_snaps qm_aside qm_name qm_readName qm_keptName qm_isKept qm_onces qm_snapMany qm_order qm_ordered qm_orderMany qm_orderMost qm_passing qm_movedWho qm_scratched qm_text qm_texts qm_seed qm_line qm_written qm_lineMany qm_hasWritten qm_node qm_nodes qm_onesMany qm_within qm_top qm_text_c (by omega) (by omega) (by omega)) mwX11_writeWord kw1671 [0, 1] [] rfl rfl rfl rfl (by decide) 0 rfl rfl rfl rfl hl.1 rfl (Nat.le_of_ble_eq_true rfl) ⟨(Nat.le_of_ble_eq_true rfl), (Nat.le_of_ble_eq_true rfl)⟩ ⟨(Nat.le_of_ble_eq_true rfl), (Nat.le_of_ble_eq_true rfl)⟩ dX11_writeWord_14 (fun  u9 H locs hp9 hw => ?_)
    obtain ⟨x11, x12, rfl, hf13, hf14⟩ := hp9
    have hw : Wd G s A [(qm, .inr (10, [.int qm_thrown, .ref qm_tape, .int qm_taped, .int qm_size, .int qm_limit, .int qm_to, .int qm_from, .int qm_kind, .int qm_number, .int qm_sign, .int qm_fault, .int qm_place, .long qm_word, .int qm_told, .ref qm_now, .ref qm_read, .ref qm_kept, .ref qm_snaps, .ref qm_aside, .ref qm_name, .ref qm_readName, .ref qm_keptName, .ref qm_isKept, .ref qm_onces, .int qm_snapMany, .ref qm_order, .ref qm_ordered, .int qm_orderMany, .int qm_orderMost, .int qm_passing, .int qm_movedWho, .int qm_scratched, .ref qm_text, .int x11, .int qm_seed, .ref qm_line, .ref qm_written, .int qm_lineMany, .int qm_hasWritten, .ref qm_node, .int qm_nodes, .int qm_onesMany, .int qm_within, .int qm_top])), (qm_text, eI G 64 x12)] H _ := hw
    refine lv_aload_n C.1 C.2.1 dX11_writeWord_17 rfl (lv_at hl 0 rfl) ?_
    refine lv_bipush (v := 96) C.1 C.2.1 dX11_writeWord_18 (by decide) ?_
    refine lv_lload_n C.1 C.2.1 dX11_writeWord_20 rfl (lv_at hl 1 rfl) ?_
    refine lv_ldc2 (v := 27) C.1 C.2.1 C.2.2.2.1 (C.2.2.2.2 _ kw1353) dX11_writeWord_21 ?_
    refine lv_lrem C.1 C.2.1 dX11_writeWord_24 (by decide) (x_genl (fun v15 => ?_))
    refine lv_l2i (v := v15.toInt32) C.1 C.2.1 dX11_writeWord_25 rfl (x_gen (fun v16 => ?_))
    refine lv_iadd C.1 C.2.1 dX11_writeWord_26 (x_gen (fun v17 => ?_))
    refine x_callvV (As := [.int v17]) (rest := []) (wr := []) C hw (s_X11_write qm v17 qm_thrown qm_tape qm_taped qm_size qm_limit qm_to qm_from qm_kind qm_number qm_sign qm_fault qm_place qm_word qm_told qm_now qm_read qm_kept qm_snaps qm_aside qm_name qm_readName qm_keptName qm_isKept qm_onces qm_snapMany qm_order qm_ordered qm_orderMany qm_orderMost qm_passing qm_movedWho qm_scratched qm_text x11 qm_seed qm_line qm_written qm_lineMany qm_hasWritten qm_node qm_nodes qm_onesMany qm_within qm_top x12 (by omega) (by omega)) mwX11_write kw1675 [0, 1] [] rfl rfl rfl rfl (by decide) 0 rfl rfl rfl rfl hl.1 rfl (Nat.le_of_ble_eq_true rfl) ⟨(Nat.le_of_ble_eq_true rfl), (Nat.le_of_ble_eq_true rfl)⟩ ⟨(Nat.le_of_ble_eq_true rfl), (Nat.le_of_ble_eq_true rfl)⟩ dX11_writeWord_27 (fun  u9 H locs hp9 hw => ?_)
    obtain ⟨x18, x19, rfl, hf20, hf21⟩ := hp9
    have hw : Wd G s A [(qm, .inr (10, [.int qm_thrown, .ref qm_tape, .int qm_taped, .int qm_size, .int qm_limit, .int qm_to, .int qm_from, .int qm_kind, .int qm_number, .int qm_sign, .int qm_fault, .int qm_place, .long qm_word, .int qm_told, .ref qm_now, .ref qm_read, .ref qm_kept, .ref qm_snaps, .ref qm_aside, .ref qm_name, .ref qm_readName, .ref qm_keptName, .ref qm_isKept, .ref qm_onces, .int qm_snapMany, .ref qm_order, .ref qm_ordered, .int qm_orderMany, .int qm_orderMost, .int qm_passing, .int qm_movedWho, .int qm_scratched, .ref qm_text, .int x18, .int qm_seed, .ref qm_line, .ref qm_written, .int qm_lineMany, .int qm_hasWritten, .ref qm_node, .int qm_nodes, .int qm_onesMany, .int qm_within, .int qm_top])), (qm_text, eI G 64 x19)] H _ := hw
    exact x_retvQ hQ B hw ⟨x18, x19, rfl, (by omega), (by omega)⟩ (Nat.le_of_ble_eq_true rfl) (Nat.le_of_ble_eq_true rfl) dX11_writeWord_30
set_option maxHeartbeats 4000000 in
set_option maxRecDepth 100000 in
theorem s_X11_writeWord_9 {l : Launch} {G : Gc} (qm : Nat) (a1 : Int64) (qm_thrown : Int32) (qm_tape : Nat) (qm_taped : Int32) (qm_size : Int32) (qm_limit : Int32) (qm_to : Int32) (qm_from : Int32) (qm_kind : Int32) (qm_number : Int32) (qm_sign : Int32) (qm_fault : Int32) (qm_place : Int32) (qm_word : Int64) (qm_told : Int32) (qm_now : Nat) (qm_read : Nat) (qm_kept : Nat) (qm_snaps : Nat) (qm_aside : Nat) (qm_name : Nat) (qm_readName : Nat) (qm_keptName : Nat) (qm_isKept : Nat) (qm_onces : Nat) (qm_snapMany : Int32) (qm_order : Nat) (qm_ordered : Nat) (qm_orderMany : Int32) (qm_orderMost : Int32) (qm_passing : Int32) (qm_movedWho : Int32) (qm_scratched : Int32) (qm_text : Nat) (qm_texts : Int32) (qm_seed : Int32) (qm_line : Nat) (qm_written : Nat) (qm_lineMany : Int32) (qm_hasWritten : Int32) (qm_node : Nat) (qm_nodes : Int32) (qm_onesMany : Int32) (qm_within : Int32) (qm_top : Int32) (qm_text_c : Nat → Int32) (hi_qm_texts : 0 ≤ qm_texts.toInt ∧ qm_texts.toInt ≤ 64) (hr_0 : a1.toInt < 7625597484987) (hr_1 : qm_texts.toInt + 9 ≤ 64) : Cv l yX11_writeWord cX11_writeWord 3 9 0 0 G [.ref qm, .long a1] [(qm, .inr (10, [.int qm_thrown, .ref qm_tape, .int qm_taped, .int qm_size, .int qm_limit, .int qm_to, .int qm_from, .int qm_kind, .int qm_number, .int qm_sign, .int qm_fault, .int qm_place, .long qm_word, .int qm_told, .ref qm_now, .ref qm_read, .ref qm_kept, .ref qm_snaps, .ref qm_aside, .ref qm_name, .ref qm_readName, .ref qm_keptName, .ref qm_isKept, .ref qm_onces, .int qm_snapMany, .ref qm_order, .ref qm_ordered, .int qm_orderMany, .int qm_orderMost, .int qm_passing, .int qm_movedWho, .int qm_scratched, .ref qm_text, .int qm_texts, .int qm_seed, .ref qm_line, .ref qm_written, .int qm_lineMany, .int qm_hasWritten, .ref qm_node, .int qm_nodes, .int qm_onesMany, .int qm_within, .int qm_top])), (qm_text, eI G 64 qm_text_c)] (fun (u9 : va_W) => ∃ (x0_qm_texts : Int32) (x1_qm_text_c : Nat → Int32), u9 = [(qm, .inr (10, [.int qm_thrown, .ref qm_tape, .int qm_taped, .int qm_size, .int qm_limit, .int qm_to, .int qm_from, .int qm_kind, .int qm_number, .int qm_sign, .int qm_fault, .int qm_place, .long qm_word, .int qm_told, .ref qm_now, .ref qm_read, .ref qm_kept, .ref qm_snaps, .ref qm_aside, .ref qm_name, .ref qm_readName, .ref qm_keptName, .ref qm_isKept, .ref qm_onces, .int qm_snapMany, .ref qm_order, .ref qm_ordered, .int qm_orderMany, .int qm_orderMost, .int qm_passing, .int qm_movedWho, .int qm_scratched, .ref qm_text, .int x0_qm_texts, .int qm_seed, .ref qm_line, .ref qm_written, .int qm_lineMany, .int qm_hasWritten, .ref qm_node, .int qm_nodes, .int qm_onesMany, .int qm_within, .int qm_top])), (qm_text, eI G 64 x1_qm_text_c)] ∧ (1 ≤ x0_qm_texts.toInt ∧ x0_qm_texts.toInt ≤ 64) ∧ (qm_texts.toInt ≤ x0_qm_texts.toInt ∧ x0_qm_texts.toInt ≤ qm_texts.toInt + 9)) := by
  refine Cv.ofQ (by decide) (Nat.le_of_ble_eq_true rfl) ?_
  intro p e s m below meth c ls A args Q hQ B hw hl
  have C : CallFix p m c cX11_writeWord 3 s args gw "LanternStateModel" := B.1
  have hl : lv_has ls 3 [(0, .ref qm), (1, .long a1)] := hl
  refine lv_lload_n C.1 C.2.1 dX11_writeWord_0 rfl (lv_at hl 1 rfl) ?_
  refine lv_ldc2 (v := 27) C.1 C.2.1 C.2.2.2.1 (C.2.2.2.2 _ kw1353) dX11_writeWord_1 ?_
  refine W.lcmp C.1 C.2.1 dX11_writeWord_4 (x_genP (fun z : Int32 => 0 ≤ z.toInt ↔ 27 ≤ a1.toInt) (l_cmp rfl rfl) (fun v1 hv1 => ?_))
  refine lv_if_lt (tgt := 17) C.1 C.2.1 dX11_writeWord_5 (by decide) (fun c2 => ?_) (fun c2 => ?_)
  · skip
    have c2 : v1.toInt < 0 := i_ltT (X := v1.toInt) (Y := 0) rfl rfl c2
    have bc2_v1 := i_bd v1
    refine lv_aload_n C.1 C.2.1 dX11_writeWord_17 rfl (lv_at hl 0 rfl) ?_
    refine lv_bipush (v := 96) C.1 C.2.1 dX11_writeWord_18 (by decide) ?_
    refine lv_lload_n C.1 C.2.1 dX11_writeWord_20 rfl (lv_at hl 1 rfl) ?_
    refine lv_ldc2 (v := 27) C.1 C.2.1 C.2.2.2.1 (C.2.2.2.2 _ kw1353) dX11_writeWord_21 ?_
    refine lv_lrem C.1 C.2.1 dX11_writeWord_24 (by decide) (x_genl (fun v3 => ?_))
    refine lv_l2i (v := v3.toInt32) C.1 C.2.1 dX11_writeWord_25 rfl (x_gen (fun v4 => ?_))
    refine lv_iadd C.1 C.2.1 dX11_writeWord_26 (x_gen (fun v5 => ?_))
    refine x_callvV (As := [.int v5]) (rest := []) (wr := []) C hw (s_X11_write qm v5 qm_thrown qm_tape qm_taped qm_size qm_limit qm_to qm_from qm_kind qm_number qm_sign qm_fault qm_place qm_word qm_told qm_now qm_read qm_kept qm_snaps qm_aside qm_name qm_readName qm_keptName qm_isKept qm_onces qm_snapMany qm_order qm_ordered qm_orderMany qm_orderMost qm_passing qm_movedWho qm_scratched qm_text qm_texts qm_seed qm_line qm_written qm_lineMany qm_hasWritten qm_node qm_nodes qm_onesMany qm_within qm_top qm_text_c (by omega) (by omega)) mwX11_write kw1675 [0, 1] [] rfl rfl rfl rfl (by decide) 0 rfl rfl rfl rfl hl.1 rfl (Nat.le_of_ble_eq_true rfl) ⟨(Nat.le_of_ble_eq_true rfl), (Nat.le_of_ble_eq_true rfl)⟩ ⟨(Nat.le_of_ble_eq_true rfl), (Nat.le_of_ble_eq_true rfl)⟩ dX11_writeWord_27 (fun  u9 H locs hp9 hw => ?_)
    obtain ⟨x6, x7, rfl, hf8, hf9⟩ := hp9
    have hw : Wd G s A [(qm, .inr (10, [.int qm_thrown, .ref qm_tape, .int qm_taped, .int qm_size, .int qm_limit, .int qm_to, .int qm_from, .int qm_kind, .int qm_number, .int qm_sign, .int qm_fault, .int qm_place, .long qm_word, .int qm_told, .ref qm_now, .ref qm_read, .ref qm_kept, .ref qm_snaps, .ref qm_aside, .ref qm_name, .ref qm_readName, .ref qm_keptName, .ref qm_isKept, .ref qm_onces, .int qm_snapMany, .ref qm_order, .ref qm_ordered, .int qm_orderMany, .int qm_orderMost, .int qm_passing, .int qm_movedWho, .int qm_scratched, .ref qm_text, .int x6, .int qm_seed, .ref qm_line, .ref qm_written, .int qm_lineMany, .int qm_hasWritten, .ref qm_node, .int qm_nodes, .int qm_onesMany, .int qm_within, .int qm_top])), (qm_text, eI G 64 x7)] H _ := hw
    exact x_retvQ hQ B hw ⟨x6, x7, rfl, (by omega), (by omega)⟩ (Nat.le_of_ble_eq_true rfl) (Nat.le_of_ble_eq_true rfl) dX11_writeWord_30
  · skip
    have c2 : 0 ≤ v1.toInt := i_ltF (X := v1.toInt) (Y := 0) rfl rfl c2
    have bc2_v1 := i_bd v1
    refine lv_aload_n C.1 C.2.1 dX11_writeWord_8 rfl (lv_at hl 0 rfl) ?_
    refine lv_lload_n C.1 C.2.1 dX11_writeWord_9 rfl (lv_at hl 1 rfl) ?_
    refine lv_ldc2 (v := 27) C.1 C.2.1 C.2.2.2.1 (C.2.2.2.2 _ kw1353) dX11_writeWord_10 ?_
    refine lv_ldiv C.1 C.2.1 dX11_writeWord_13 (by decide) (x_genlP (fun z : Int64 => z.toInt = a1.toInt / 27) (l_div27 rfl (by omega)) (fun v10 hv10 => ?_))
    refine x_callvV (As := [.long v10]) (rest := []) (wr := []) C hw (s_X11_writeWord_8 qm v10 qm_thrown qm_tape qm_taped qm_size qm_limit qm_to qm_from qm_kind qm_number qm_sign qm_fault qm_place qm_word qm_told qm_now qm_read qm_kept qm_snaps qm_aside qm_name qm_readName qm_keptName qm_isKept qm_onces qm_snapMany qm_order qm_ordered qm_orderMany qm_orderMost qm_passing qm_movedWho qm_scratched qm_text qm_texts qm_seed qm_line qm_written qm_lineMany qm_hasWritten qm_node qm_nodes qm_onesMany qm_within qm_top qm_text_c (by omega) (by omega) (by omega)) mwX11_writeWord kw1671 [0, 1] [] rfl rfl rfl rfl (by decide) 0 rfl rfl rfl rfl hl.1 rfl (Nat.le_of_ble_eq_true rfl) ⟨(Nat.le_of_ble_eq_true rfl), (Nat.le_of_ble_eq_true rfl)⟩ ⟨(Nat.le_of_ble_eq_true rfl), (Nat.le_of_ble_eq_true rfl)⟩ dX11_writeWord_14 (fun  u9 H locs hp9 hw => ?_)
    obtain ⟨x11, x12, rfl, hf13, hf14⟩ := hp9
    have hw : Wd G s A [(qm, .inr (10, [.int qm_thrown, .ref qm_tape, .int qm_taped, .int qm_size, .int qm_limit, .int qm_to, .int qm_from, .int qm_kind, .int qm_number, .int qm_sign, .int qm_fault, .int qm_place, .long qm_word, .int qm_told, .ref qm_now, .ref qm_read, .ref qm_kept, .ref qm_snaps, .ref qm_aside, .ref qm_name, .ref qm_readName, .ref qm_keptName, .ref qm_isKept, .ref qm_onces, .int qm_snapMany, .ref qm_order, .ref qm_ordered, .int qm_orderMany, .int qm_orderMost, .int qm_passing, .int qm_movedWho, .int qm_scratched, .ref qm_text, .int x11, .int qm_seed, .ref qm_line, .ref qm_written, .int qm_lineMany, .int qm_hasWritten, .ref qm_node, .int qm_nodes, .int qm_onesMany, .int qm_within, .int qm_top])), (qm_text, eI G 64 x12)] H _ := hw
    refine lv_aload_n C.1 C.2.1 dX11_writeWord_17 rfl (lv_at hl 0 rfl) ?_
    refine lv_bipush (v := 96) C.1 C.2.1 dX11_writeWord_18 (by decide) ?_
    refine lv_lload_n C.1 C.2.1 dX11_writeWord_20 rfl (lv_at hl 1 rfl) ?_
    refine lv_ldc2 (v := 27) C.1 C.2.1 C.2.2.2.1 (C.2.2.2.2 _ kw1353) dX11_writeWord_21 ?_
    refine lv_lrem C.1 C.2.1 dX11_writeWord_24 (by decide) (x_genl (fun v15 => ?_))
    refine lv_l2i (v := v15.toInt32) C.1 C.2.1 dX11_writeWord_25 rfl (x_gen (fun v16 => ?_))
    refine lv_iadd C.1 C.2.1 dX11_writeWord_26 (x_gen (fun v17 => ?_))
    refine x_callvV (As := [.int v17]) (rest := []) (wr := []) C hw (s_X11_write qm v17 qm_thrown qm_tape qm_taped qm_size qm_limit qm_to qm_from qm_kind qm_number qm_sign qm_fault qm_place qm_word qm_told qm_now qm_read qm_kept qm_snaps qm_aside qm_name qm_readName qm_keptName qm_isKept qm_onces qm_snapMany qm_order qm_ordered qm_orderMany qm_orderMost qm_passing qm_movedWho qm_scratched qm_text x11 qm_seed qm_line qm_written qm_lineMany qm_hasWritten qm_node qm_nodes qm_onesMany qm_within qm_top x12 (by omega) (by omega)) mwX11_write kw1675 [0, 1] [] rfl rfl rfl rfl (by decide) 0 rfl rfl rfl rfl hl.1 rfl (Nat.le_of_ble_eq_true rfl) ⟨(Nat.le_of_ble_eq_true rfl), (Nat.le_of_ble_eq_true rfl)⟩ ⟨(Nat.le_of_ble_eq_true rfl), (Nat.le_of_ble_eq_true rfl)⟩ dX11_writeWord_27 (fun  u9 H locs hp9 hw => ?_)
    obtain ⟨x18, x19, rfl, hf20, hf21⟩ := hp9
    have hw : Wd G s A [(qm, .inr (10, [.int qm_thrown, .ref qm_tape, .int qm_taped, .int qm_size, .int qm_limit, .int qm_to, .int qm_from, .int qm_kind, .int qm_number, .int qm_sign, .int qm_fault, .int qm_place, .long qm_word, .int qm_told, .ref qm_now, .ref qm_read, .ref qm_kept, .ref qm_snaps, .ref qm_aside, .ref qm_name, .ref qm_readName, .ref qm_keptName, .ref qm_isKept, .ref qm_onces, .int qm_snapMany, .ref qm_order, .ref qm_ordered, .int qm_orderMany, .int qm_orderMost, .int qm_passing, .int qm_movedWho, .int qm_scratched, .ref qm_text, .int x18, .int qm_seed, .ref qm_line, .ref qm_written, .int qm_lineMany, .int qm_hasWritten, .ref qm_node, .int qm_nodes, .int qm_onesMany, .int qm_within, .int qm_top])), (qm_text, eI G 64 x19)] H _ := hw
    exact x_retvQ hQ B hw ⟨x18, x19, rfl, (by omega), (by omega)⟩ (Nat.le_of_ble_eq_true rfl) (Nat.le_of_ble_eq_true rfl) dX11_writeWord_30
set_option maxHeartbeats 4000000 in
set_option maxRecDepth 100000 in
theorem s_X11_writeWord_10 {l : Launch} {G : Gc} (qm : Nat) (a1 : Int64) (qm_thrown : Int32) (qm_tape : Nat) (qm_taped : Int32) (qm_size : Int32) (qm_limit : Int32) (qm_to : Int32) (qm_from : Int32) (qm_kind : Int32) (qm_number : Int32) (qm_sign : Int32) (qm_fault : Int32) (qm_place : Int32) (qm_word : Int64) (qm_told : Int32) (qm_now : Nat) (qm_read : Nat) (qm_kept : Nat) (qm_snaps : Nat) (qm_aside : Nat) (qm_name : Nat) (qm_readName : Nat) (qm_keptName : Nat) (qm_isKept : Nat) (qm_onces : Nat) (qm_snapMany : Int32) (qm_order : Nat) (qm_ordered : Nat) (qm_orderMany : Int32) (qm_orderMost : Int32) (qm_passing : Int32) (qm_movedWho : Int32) (qm_scratched : Int32) (qm_text : Nat) (qm_texts : Int32) (qm_seed : Int32) (qm_line : Nat) (qm_written : Nat) (qm_lineMany : Int32) (qm_hasWritten : Int32) (qm_node : Nat) (qm_nodes : Int32) (qm_onesMany : Int32) (qm_within : Int32) (qm_top : Int32) (qm_text_c : Nat → Int32) (hi_qm_texts : 0 ≤ qm_texts.toInt ∧ qm_texts.toInt ≤ 64) (hr_0 : a1.toInt < 205891132094649) (hr_1 : qm_texts.toInt + 10 ≤ 64) : Cv l yX11_writeWord cX11_writeWord 3 10 0 0 G [.ref qm, .long a1] [(qm, .inr (10, [.int qm_thrown, .ref qm_tape, .int qm_taped, .int qm_size, .int qm_limit, .int qm_to, .int qm_from, .int qm_kind, .int qm_number, .int qm_sign, .int qm_fault, .int qm_place, .long qm_word, .int qm_told, .ref qm_now, .ref qm_read, .ref qm_kept, .ref qm_snaps, .ref qm_aside, .ref qm_name, .ref qm_readName, .ref qm_keptName, .ref qm_isKept, .ref qm_onces, .int qm_snapMany, .ref qm_order, .ref qm_ordered, .int qm_orderMany, .int qm_orderMost, .int qm_passing, .int qm_movedWho, .int qm_scratched, .ref qm_text, .int qm_texts, .int qm_seed, .ref qm_line, .ref qm_written, .int qm_lineMany, .int qm_hasWritten, .ref qm_node, .int qm_nodes, .int qm_onesMany, .int qm_within, .int qm_top])), (qm_text, eI G 64 qm_text_c)] (fun (u9 : va_W) => ∃ (x0_qm_texts : Int32) (x1_qm_text_c : Nat → Int32), u9 = [(qm, .inr (10, [.int qm_thrown, .ref qm_tape, .int qm_taped, .int qm_size, .int qm_limit, .int qm_to, .int qm_from, .int qm_kind, .int qm_number, .int qm_sign, .int qm_fault, .int qm_place, .long qm_word, .int qm_told, .ref qm_now, .ref qm_read, .ref qm_kept, .ref qm_snaps, .ref qm_aside, .ref qm_name, .ref qm_readName, .ref qm_keptName, .ref qm_isKept, .ref qm_onces, .int qm_snapMany, .ref qm_order, .ref qm_ordered, .int qm_orderMany, .int qm_orderMost, .int qm_passing, .int qm_movedWho, .int qm_scratched, .ref qm_text, .int x0_qm_texts, .int qm_seed, .ref qm_line, .ref qm_written, .int qm_lineMany, .int qm_hasWritten, .ref qm_node, .int qm_nodes, .int qm_onesMany, .int qm_within, .int qm_top])), (qm_text, eI G 64 x1_qm_text_c)] ∧ (1 ≤ x0_qm_texts.toInt ∧ x0_qm_texts.toInt ≤ 64) ∧ (qm_texts.toInt ≤ x0_qm_texts.toInt ∧ x0_qm_texts.toInt ≤ qm_texts.toInt + 10)) := by
  refine Cv.ofQ (by decide) (Nat.le_of_ble_eq_true rfl) ?_
  intro p e s m below meth c ls A args Q hQ B hw hl
  have C : CallFix p m c cX11_writeWord 3 s args gw "LanternStateModel" := B.1
  have hl : lv_has ls 3 [(0, .ref qm), (1, .long a1)] := hl
  refine lv_lload_n C.1 C.2.1 dX11_writeWord_0 rfl (lv_at hl 1 rfl) ?_
  refine lv_ldc2 (v := 27) C.1 C.2.1 C.2.2.2.1 (C.2.2.2.2 _ kw1353) dX11_writeWord_1 ?_
  refine W.lcmp C.1 C.2.1 dX11_writeWord_4 (x_genP (fun z : Int32 => 0 ≤ z.toInt ↔ 27 ≤ a1.toInt) (l_cmp rfl rfl) (fun v1 hv1 => ?_))
  refine lv_if_lt (tgt := 17) C.1 C.2.1 dX11_writeWord_5 (by decide) (fun c2 => ?_) (fun c2 => ?_)
  · skip
    have c2 : v1.toInt < 0 := i_ltT (X := v1.toInt) (Y := 0) rfl rfl c2
    have bc2_v1 := i_bd v1
    refine lv_aload_n C.1 C.2.1 dX11_writeWord_17 rfl (lv_at hl 0 rfl) ?_
    refine lv_bipush (v := 96) C.1 C.2.1 dX11_writeWord_18 (by decide) ?_
    refine lv_lload_n C.1 C.2.1 dX11_writeWord_20 rfl (lv_at hl 1 rfl) ?_
    refine lv_ldc2 (v := 27) C.1 C.2.1 C.2.2.2.1 (C.2.2.2.2 _ kw1353) dX11_writeWord_21 ?_
    refine lv_lrem C.1 C.2.1 dX11_writeWord_24 (by decide) (x_genl (fun v3 => ?_))
    refine lv_l2i (v := v3.toInt32) C.1 C.2.1 dX11_writeWord_25 rfl (x_gen (fun v4 => ?_))
    refine lv_iadd C.1 C.2.1 dX11_writeWord_26 (x_gen (fun v5 => ?_))
    refine x_callvV (As := [.int v5]) (rest := []) (wr := []) C hw (s_X11_write qm v5 qm_thrown qm_tape qm_taped qm_size qm_limit qm_to qm_from qm_kind qm_number qm_sign qm_fault qm_place qm_word qm_told qm_now qm_read qm_kept qm_snaps qm_aside qm_name qm_readName qm_keptName qm_isKept qm_onces qm_snapMany qm_order qm_ordered qm_orderMany qm_orderMost qm_passing qm_movedWho qm_scratched qm_text qm_texts qm_seed qm_line qm_written qm_lineMany qm_hasWritten qm_node qm_nodes qm_onesMany qm_within qm_top qm_text_c (by omega) (by omega)) mwX11_write kw1675 [0, 1] [] rfl rfl rfl rfl (by decide) 0 rfl rfl rfl rfl hl.1 rfl (Nat.le_of_ble_eq_true rfl) ⟨(Nat.le_of_ble_eq_true rfl), (Nat.le_of_ble_eq_true rfl)⟩ ⟨(Nat.le_of_ble_eq_true rfl), (Nat.le_of_ble_eq_true rfl)⟩ dX11_writeWord_27 (fun  u9 H locs hp9 hw => ?_)
    obtain ⟨x6, x7, rfl, hf8, hf9⟩ := hp9
    have hw : Wd G s A [(qm, .inr (10, [.int qm_thrown, .ref qm_tape, .int qm_taped, .int qm_size, .int qm_limit, .int qm_to, .int qm_from, .int qm_kind, .int qm_number, .int qm_sign, .int qm_fault, .int qm_place, .long qm_word, .int qm_told, .ref qm_now, .ref qm_read, .ref qm_kept, .ref qm_snaps, .ref qm_aside, .ref qm_name, .ref qm_readName, .ref qm_keptName, .ref qm_isKept, .ref qm_onces, .int qm_snapMany, .ref qm_order, .ref qm_ordered, .int qm_orderMany, .int qm_orderMost, .int qm_passing, .int qm_movedWho, .int qm_scratched, .ref qm_text, .int x6, .int qm_seed, .ref qm_line, .ref qm_written, .int qm_lineMany, .int qm_hasWritten, .ref qm_node, .int qm_nodes, .int qm_onesMany, .int qm_within, .int qm_top])), (qm_text, eI G 64 x7)] H _ := hw
    exact x_retvQ hQ B hw ⟨x6, x7, rfl, (by omega), (by omega)⟩ (Nat.le_of_ble_eq_true rfl) (Nat.le_of_ble_eq_true rfl) dX11_writeWord_30
  · skip
    have c2 : 0 ≤ v1.toInt := i_ltF (X := v1.toInt) (Y := 0) rfl rfl c2
    have bc2_v1 := i_bd v1
    refine lv_aload_n C.1 C.2.1 dX11_writeWord_8 rfl (lv_at hl 0 rfl) ?_
    refine lv_lload_n C.1 C.2.1 dX11_writeWord_9 rfl (lv_at hl 1 rfl) ?_
    refine lv_ldc2 (v := 27) C.1 C.2.1 C.2.2.2.1 (C.2.2.2.2 _ kw1353) dX11_writeWord_10 ?_
    refine lv_ldiv C.1 C.2.1 dX11_writeWord_13 (by decide) (x_genlP (fun z : Int64 => z.toInt = a1.toInt / 27) (l_div27 rfl (by omega)) (fun v10 hv10 => ?_))
    refine x_callvV (As := [.long v10]) (rest := []) (wr := []) C hw (s_X11_writeWord_9 qm v10 qm_thrown qm_tape qm_taped qm_size qm_limit qm_to qm_from qm_kind qm_number qm_sign qm_fault qm_place qm_word qm_told qm_now qm_read qm_kept qm_snaps qm_aside qm_name qm_readName qm_keptName qm_isKept qm_onces qm_snapMany qm_order qm_ordered qm_orderMany qm_orderMost qm_passing qm_movedWho qm_scratched qm_text qm_texts qm_seed qm_line qm_written qm_lineMany qm_hasWritten qm_node qm_nodes qm_onesMany qm_within qm_top qm_text_c (by omega) (by omega) (by omega)) mwX11_writeWord kw1671 [0, 1] [] rfl rfl rfl rfl (by decide) 0 rfl rfl rfl rfl hl.1 rfl (Nat.le_of_ble_eq_true rfl) ⟨(Nat.le_of_ble_eq_true rfl), (Nat.le_of_ble_eq_true rfl)⟩ ⟨(Nat.le_of_ble_eq_true rfl), (Nat.le_of_ble_eq_true rfl)⟩ dX11_writeWord_14 (fun  u9 H locs hp9 hw => ?_)
    obtain ⟨x11, x12, rfl, hf13, hf14⟩ := hp9
    have hw : Wd G s A [(qm, .inr (10, [.int qm_thrown, .ref qm_tape, .int qm_taped, .int qm_size, .int qm_limit, .int qm_to, .int qm_from, .int qm_kind, .int qm_number, .int qm_sign, .int qm_fault, .int qm_place, .long qm_word, .int qm_told, .ref qm_now, .ref qm_read, .ref qm_kept, .ref qm_snaps, .ref qm_aside, .ref qm_name, .ref qm_readName, .ref qm_keptName, .ref qm_isKept, .ref qm_onces, .int qm_snapMany, .ref qm_order, .ref qm_ordered, .int qm_orderMany, .int qm_orderMost, .int qm_passing, .int qm_movedWho, .int qm_scratched, .ref qm_text, .int x11, .int qm_seed, .ref qm_line, .ref qm_written, .int qm_lineMany, .int qm_hasWritten, .ref qm_node, .int qm_nodes, .int qm_onesMany, .int qm_within, .int qm_top])), (qm_text, eI G 64 x12)] H _ := hw
    refine lv_aload_n C.1 C.2.1 dX11_writeWord_17 rfl (lv_at hl 0 rfl) ?_
    refine lv_bipush (v := 96) C.1 C.2.1 dX11_writeWord_18 (by decide) ?_
    refine lv_lload_n C.1 C.2.1 dX11_writeWord_20 rfl (lv_at hl 1 rfl) ?_
    refine lv_ldc2 (v := 27) C.1 C.2.1 C.2.2.2.1 (C.2.2.2.2 _ kw1353) dX11_writeWord_21 ?_
    refine lv_lrem C.1 C.2.1 dX11_writeWord_24 (by decide) (x_genl (fun v15 => ?_))
    refine lv_l2i (v := v15.toInt32) C.1 C.2.1 dX11_writeWord_25 rfl (x_gen (fun v16 => ?_))
    refine lv_iadd C.1 C.2.1 dX11_writeWord_26 (x_gen (fun v17 => ?_))
    refine x_callvV (As := [.int v17]) (rest := []) (wr := []) C hw (s_X11_write qm v17 qm_thrown qm_tape qm_taped qm_size qm_limit qm_to qm_from qm_kind qm_number qm_sign qm_fault qm_place qm_word qm_told qm_now qm_read qm_kept qm_snaps qm_aside qm_name qm_readName qm_keptName qm_isKept qm_onces qm_snapMany qm_order qm_ordered qm_orderMany qm_orderMost qm_passing qm_movedWho qm_scratched qm_text x11 qm_seed qm_line qm_written qm_lineMany qm_hasWritten qm_node qm_nodes qm_onesMany qm_within qm_top x12 (by omega) (by omega)) mwX11_write kw1675 [0, 1] [] rfl rfl rfl rfl (by decide) 0 rfl rfl rfl rfl hl.1 rfl (Nat.le_of_ble_eq_true rfl) ⟨(Nat.le_of_ble_eq_true rfl), (Nat.le_of_ble_eq_true rfl)⟩ ⟨(Nat.le_of_ble_eq_true rfl), (Nat.le_of_ble_eq_true rfl)⟩ dX11_writeWord_27 (fun  u9 H locs hp9 hw => ?_)
    obtain ⟨x18, x19, rfl, hf20, hf21⟩ := hp9
    have hw : Wd G s A [(qm, .inr (10, [.int qm_thrown, .ref qm_tape, .int qm_taped, .int qm_size, .int qm_limit, .int qm_to, .int qm_from, .int qm_kind, .int qm_number, .int qm_sign, .int qm_fault, .int qm_place, .long qm_word, .int qm_told, .ref qm_now, .ref qm_read, .ref qm_kept, .ref qm_snaps, .ref qm_aside, .ref qm_name, .ref qm_readName, .ref qm_keptName, .ref qm_isKept, .ref qm_onces, .int qm_snapMany, .ref qm_order, .ref qm_ordered, .int qm_orderMany, .int qm_orderMost, .int qm_passing, .int qm_movedWho, .int qm_scratched, .ref qm_text, .int x18, .int qm_seed, .ref qm_line, .ref qm_written, .int qm_lineMany, .int qm_hasWritten, .ref qm_node, .int qm_nodes, .int qm_onesMany, .int qm_within, .int qm_top])), (qm_text, eI G 64 x19)] H _ := hw
    exact x_retvQ hQ B hw ⟨x18, x19, rfl, (by omega), (by omega)⟩ (Nat.le_of_ble_eq_true rfl) (Nat.le_of_ble_eq_true rfl) dX11_writeWord_30
set_option maxHeartbeats 4000000 in
set_option maxRecDepth 100000 in
theorem s_X11_writeWord_11 {l : Launch} {G : Gc} (qm : Nat) (a1 : Int64) (qm_thrown : Int32) (qm_tape : Nat) (qm_taped : Int32) (qm_size : Int32) (qm_limit : Int32) (qm_to : Int32) (qm_from : Int32) (qm_kind : Int32) (qm_number : Int32) (qm_sign : Int32) (qm_fault : Int32) (qm_place : Int32) (qm_word : Int64) (qm_told : Int32) (qm_now : Nat) (qm_read : Nat) (qm_kept : Nat) (qm_snaps : Nat) (qm_aside : Nat) (qm_name : Nat) (qm_readName : Nat) (qm_keptName : Nat) (qm_isKept : Nat) (qm_onces : Nat) (qm_snapMany : Int32) (qm_order : Nat) (qm_ordered : Nat) (qm_orderMany : Int32) (qm_orderMost : Int32) (qm_passing : Int32) (qm_movedWho : Int32) (qm_scratched : Int32) (qm_text : Nat) (qm_texts : Int32) (qm_seed : Int32) (qm_line : Nat) (qm_written : Nat) (qm_lineMany : Int32) (qm_hasWritten : Int32) (qm_node : Nat) (qm_nodes : Int32) (qm_onesMany : Int32) (qm_within : Int32) (qm_top : Int32) (qm_text_c : Nat → Int32) (hi_qm_texts : 0 ≤ qm_texts.toInt ∧ qm_texts.toInt ≤ 64) (hr_0 : a1.toInt < 5559060566555523) (hr_1 : qm_texts.toInt + 11 ≤ 64) : Cv l yX11_writeWord cX11_writeWord 3 11 0 0 G [.ref qm, .long a1] [(qm, .inr (10, [.int qm_thrown, .ref qm_tape, .int qm_taped, .int qm_size, .int qm_limit, .int qm_to, .int qm_from, .int qm_kind, .int qm_number, .int qm_sign, .int qm_fault, .int qm_place, .long qm_word, .int qm_told, .ref qm_now, .ref qm_read, .ref qm_kept, .ref qm_snaps, .ref qm_aside, .ref qm_name, .ref qm_readName, .ref qm_keptName, .ref qm_isKept, .ref qm_onces, .int qm_snapMany, .ref qm_order, .ref qm_ordered, .int qm_orderMany, .int qm_orderMost, .int qm_passing, .int qm_movedWho, .int qm_scratched, .ref qm_text, .int qm_texts, .int qm_seed, .ref qm_line, .ref qm_written, .int qm_lineMany, .int qm_hasWritten, .ref qm_node, .int qm_nodes, .int qm_onesMany, .int qm_within, .int qm_top])), (qm_text, eI G 64 qm_text_c)] (fun (u9 : va_W) => ∃ (x0_qm_texts : Int32) (x1_qm_text_c : Nat → Int32), u9 = [(qm, .inr (10, [.int qm_thrown, .ref qm_tape, .int qm_taped, .int qm_size, .int qm_limit, .int qm_to, .int qm_from, .int qm_kind, .int qm_number, .int qm_sign, .int qm_fault, .int qm_place, .long qm_word, .int qm_told, .ref qm_now, .ref qm_read, .ref qm_kept, .ref qm_snaps, .ref qm_aside, .ref qm_name, .ref qm_readName, .ref qm_keptName, .ref qm_isKept, .ref qm_onces, .int qm_snapMany, .ref qm_order, .ref qm_ordered, .int qm_orderMany, .int qm_orderMost, .int qm_passing, .int qm_movedWho, .int qm_scratched, .ref qm_text, .int x0_qm_texts, .int qm_seed, .ref qm_line, .ref qm_written, .int qm_lineMany, .int qm_hasWritten, .ref qm_node, .int qm_nodes, .int qm_onesMany, .int qm_within, .int qm_top])), (qm_text, eI G 64 x1_qm_text_c)] ∧ (1 ≤ x0_qm_texts.toInt ∧ x0_qm_texts.toInt ≤ 64) ∧ (qm_texts.toInt ≤ x0_qm_texts.toInt ∧ x0_qm_texts.toInt ≤ qm_texts.toInt + 11)) := by
  refine Cv.ofQ (by decide) (Nat.le_of_ble_eq_true rfl) ?_
  intro p e s m below meth c ls A args Q hQ B hw hl
  have C : CallFix p m c cX11_writeWord 3 s args gw "LanternStateModel" := B.1
  have hl : lv_has ls 3 [(0, .ref qm), (1, .long a1)] := hl
  refine lv_lload_n C.1 C.2.1 dX11_writeWord_0 rfl (lv_at hl 1 rfl) ?_
  refine lv_ldc2 (v := 27) C.1 C.2.1 C.2.2.2.1 (C.2.2.2.2 _ kw1353) dX11_writeWord_1 ?_
  refine W.lcmp C.1 C.2.1 dX11_writeWord_4 (x_genP (fun z : Int32 => 0 ≤ z.toInt ↔ 27 ≤ a1.toInt) (l_cmp rfl rfl) (fun v1 hv1 => ?_))
  refine lv_if_lt (tgt := 17) C.1 C.2.1 dX11_writeWord_5 (by decide) (fun c2 => ?_) (fun c2 => ?_)
  · skip
    have c2 : v1.toInt < 0 := i_ltT (X := v1.toInt) (Y := 0) rfl rfl c2
    have bc2_v1 := i_bd v1
    refine lv_aload_n C.1 C.2.1 dX11_writeWord_17 rfl (lv_at hl 0 rfl) ?_
    refine lv_bipush (v := 96) C.1 C.2.1 dX11_writeWord_18 (by decide) ?_
    refine lv_lload_n C.1 C.2.1 dX11_writeWord_20 rfl (lv_at hl 1 rfl) ?_
    refine lv_ldc2 (v := 27) C.1 C.2.1 C.2.2.2.1 (C.2.2.2.2 _ kw1353) dX11_writeWord_21 ?_
    refine lv_lrem C.1 C.2.1 dX11_writeWord_24 (by decide) (x_genl (fun v3 => ?_))
    refine lv_l2i (v := v3.toInt32) C.1 C.2.1 dX11_writeWord_25 rfl (x_gen (fun v4 => ?_))
    refine lv_iadd C.1 C.2.1 dX11_writeWord_26 (x_gen (fun v5 => ?_))
    refine x_callvV (As := [.int v5]) (rest := []) (wr := []) C hw (s_X11_write qm v5 qm_thrown qm_tape qm_taped qm_size qm_limit qm_to qm_from qm_kind qm_number qm_sign qm_fault qm_place qm_word qm_told qm_now qm_read qm_kept qm_snaps qm_aside qm_name qm_readName qm_keptName qm_isKept qm_onces qm_snapMany qm_order qm_ordered qm_orderMany qm_orderMost qm_passing qm_movedWho qm_scratched qm_text qm_texts qm_seed qm_line qm_written qm_lineMany qm_hasWritten qm_node qm_nodes qm_onesMany qm_within qm_top qm_text_c (by omega) (by omega)) mwX11_write kw1675 [0, 1] [] rfl rfl rfl rfl (by decide) 0 rfl rfl rfl rfl hl.1 rfl (Nat.le_of_ble_eq_true rfl) ⟨(Nat.le_of_ble_eq_true rfl), (Nat.le_of_ble_eq_true rfl)⟩ ⟨(Nat.le_of_ble_eq_true rfl), (Nat.le_of_ble_eq_true rfl)⟩ dX11_writeWord_27 (fun  u9 H locs hp9 hw => ?_)
    obtain ⟨x6, x7, rfl, hf8, hf9⟩ := hp9
    have hw : Wd G s A [(qm, .inr (10, [.int qm_thrown, .ref qm_tape, .int qm_taped, .int qm_size, .int qm_limit, .int qm_to, .int qm_from, .int qm_kind, .int qm_number, .int qm_sign, .int qm_fault, .int qm_place, .long qm_word, .int qm_told, .ref qm_now, .ref qm_read, .ref qm_kept, .ref qm_snaps, .ref qm_aside, .ref qm_name, .ref qm_readName, .ref qm_keptName, .ref qm_isKept, .ref qm_onces, .int qm_snapMany, .ref qm_order, .ref qm_ordered, .int qm_orderMany, .int qm_orderMost, .int qm_passing, .int qm_movedWho, .int qm_scratched, .ref qm_text, .int x6, .int qm_seed, .ref qm_line, .ref qm_written, .int qm_lineMany, .int qm_hasWritten, .ref qm_node, .int qm_nodes, .int qm_onesMany, .int qm_within, .int qm_top])), (qm_text, eI G 64 x7)] H _ := hw
    exact x_retvQ hQ B hw ⟨x6, x7, rfl, (by omega), (by omega)⟩ (Nat.le_of_ble_eq_true rfl) (Nat.le_of_ble_eq_true rfl) dX11_writeWord_30
  · skip
    have c2 : 0 ≤ v1.toInt := i_ltF (X := v1.toInt) (Y := 0) rfl rfl c2
    have bc2_v1 := i_bd v1
    refine lv_aload_n C.1 C.2.1 dX11_writeWord_8 rfl (lv_at hl 0 rfl) ?_
    refine lv_lload_n C.1 C.2.1 dX11_writeWord_9 rfl (lv_at hl 1 rfl) ?_
    refine lv_ldc2 (v := 27) C.1 C.2.1 C.2.2.2.1 (C.2.2.2.2 _ kw1353) dX11_writeWord_10 ?_
    refine lv_ldiv C.1 C.2.1 dX11_writeWord_13 (by decide) (x_genlP (fun z : Int64 => z.toInt = a1.toInt / 27) (l_div27 rfl (by omega)) (fun v10 hv10 => ?_))
    refine x_callvV (As := [.long v10]) (rest := []) (wr := []) C hw (s_X11_writeWord_10 qm v10 qm_thrown qm_tape qm_taped qm_size qm_limit qm_to qm_from qm_kind qm_number qm_sign qm_fault qm_place qm_word qm_told qm_now qm_read qm_kept qm_snaps qm_aside qm_name qm_readName qm_keptName qm_isKept qm_onces qm_snapMany qm_order qm_ordered qm_orderMany qm_orderMost qm_passing qm_movedWho qm_scratched qm_text qm_texts qm_seed qm_line qm_written qm_lineMany qm_hasWritten qm_node qm_nodes qm_onesMany qm_within qm_top qm_text_c (by omega) (by omega) (by omega)) mwX11_writeWord kw1671 [0, 1] [] rfl rfl rfl rfl (by decide) 0 rfl rfl rfl rfl hl.1 rfl (Nat.le_of_ble_eq_true rfl) ⟨(Nat.le_of_ble_eq_true rfl), (Nat.le_of_ble_eq_true rfl)⟩ ⟨(Nat.le_of_ble_eq_true rfl), (Nat.le_of_ble_eq_true rfl)⟩ dX11_writeWord_14 (fun  u9 H locs hp9 hw => ?_)
    obtain ⟨x11, x12, rfl, hf13, hf14⟩ := hp9
    have hw : Wd G s A [(qm, .inr (10, [.int qm_thrown, .ref qm_tape, .int qm_taped, .int qm_size, .int qm_limit, .int qm_to, .int qm_from, .int qm_kind, .int qm_number, .int qm_sign, .int qm_fault, .int qm_place, .long qm_word, .int qm_told, .ref qm_now, .ref qm_read, .ref qm_kept, .ref qm_snaps, .ref qm_aside, .ref qm_name, .ref qm_readName, .ref qm_keptName, .ref qm_isKept, .ref qm_onces, .int qm_snapMany, .ref qm_order, .ref qm_ordered, .int qm_orderMany, .int qm_orderMost, .int qm_passing, .int qm_movedWho, .int qm_scratched, .ref qm_text, .int x11, .int qm_seed, .ref qm_line, .ref qm_written, .int qm_lineMany, .int qm_hasWritten, .ref qm_node, .int qm_nodes, .int qm_onesMany, .int qm_within, .int qm_top])), (qm_text, eI G 64 x12)] H _ := hw
    refine lv_aload_n C.1 C.2.1 dX11_writeWord_17 rfl (lv_at hl 0 rfl) ?_
    refine lv_bipush (v := 96) C.1 C.2.1 dX11_writeWord_18 (by decide) ?_
    refine lv_lload_n C.1 C.2.1 dX11_writeWord_20 rfl (lv_at hl 1 rfl) ?_
    refine lv_ldc2 (v := 27) C.1 C.2.1 C.2.2.2.1 (C.2.2.2.2 _ kw1353) dX11_writeWord_21 ?_
    refine lv_lrem C.1 C.2.1 dX11_writeWord_24 (by decide) (x_genl (fun v15 => ?_))
    refine lv_l2i (v := v15.toInt32) C.1 C.2.1 dX11_writeWord_25 rfl (x_gen (fun v16 => ?_))
    refine lv_iadd C.1 C.2.1 dX11_writeWord_26 (x_gen (fun v17 => ?_))
    refine x_callvV (As := [.int v17]) (rest := []) (wr := []) C hw (s_X11_write qm v17 qm_thrown qm_tape qm_taped qm_size qm_limit qm_to qm_from qm_kind qm_number qm_sign qm_fault qm_place qm_word qm_told qm_now qm_read qm_kept qm_snaps qm_aside qm_name qm_readName qm_keptName qm_isKept qm_onces qm_snapMany qm_order qm_ordered qm_orderMany qm_orderMost qm_passing qm_movedWho qm_scratched qm_text x11 qm_seed qm_line qm_written qm_lineMany qm_hasWritten qm_node qm_nodes qm_onesMany qm_within qm_top x12 (by omega) (by omega)) mwX11_write kw1675 [0, 1] [] rfl rfl rfl rfl (by decide) 0 rfl rfl rfl rfl hl.1 rfl (Nat.le_of_ble_eq_true rfl) ⟨(Nat.le_of_ble_eq_true rfl), (Nat.le_of_ble_eq_true rfl)⟩ ⟨(Nat.le_of_ble_eq_true rfl), (Nat.le_of_ble_eq_true rfl)⟩ dX11_writeWord_27 (fun  u9 H locs hp9 hw => ?_)
    obtain ⟨x18, x19, rfl, hf20, hf21⟩ := hp9
    have hw : Wd G s A [(qm, .inr (10, [.int qm_thrown, .ref qm_tape, .int qm_taped, .int qm_size, .int qm_limit, .int qm_to, .int qm_from, .int qm_kind, .int qm_number, .int qm_sign, .int qm_fault, .int qm_place, .long qm_word, .int qm_told, .ref qm_now, .ref qm_read, .ref qm_kept, .ref qm_snaps, .ref qm_aside, .ref qm_name, .ref qm_readName, .ref qm_keptName, .ref qm_isKept, .ref qm_onces, .int qm_snapMany, .ref qm_order, .ref qm_ordered, .int qm_orderMany, .int qm_orderMost, .int qm_passing, .int qm_movedWho, .int qm_scratched, .ref qm_text, .int x18, .int qm_seed, .ref qm_line, .ref qm_written, .int qm_lineMany, .int qm_hasWritten, .ref qm_node, .int qm_nodes, .int qm_onesMany, .int qm_within, .int qm_top])), (qm_text, eI G 64 x19)] H _ := hw
    exact x_retvQ hQ B hw ⟨x18, x19, rfl, (by omega), (by omega)⟩ (Nat.le_of_ble_eq_true rfl) (Nat.le_of_ble_eq_true rfl) dX11_writeWord_30
set_option maxHeartbeats 4000000 in
set_option maxRecDepth 100000 in
theorem s_X11_writeWord_12 {l : Launch} {G : Gc} (qm : Nat) (a1 : Int64) (qm_thrown : Int32) (qm_tape : Nat) (qm_taped : Int32) (qm_size : Int32) (qm_limit : Int32) (qm_to : Int32) (qm_from : Int32) (qm_kind : Int32) (qm_number : Int32) (qm_sign : Int32) (qm_fault : Int32) (qm_place : Int32) (qm_word : Int64) (qm_told : Int32) (qm_now : Nat) (qm_read : Nat) (qm_kept : Nat) (qm_snaps : Nat) (qm_aside : Nat) (qm_name : Nat) (qm_readName : Nat) (qm_keptName : Nat) (qm_isKept : Nat) (qm_onces : Nat) (qm_snapMany : Int32) (qm_order : Nat) (qm_ordered : Nat) (qm_orderMany : Int32) (qm_orderMost : Int32) (qm_passing : Int32) (qm_movedWho : Int32) (qm_scratched : Int32) (qm_text : Nat) (qm_texts : Int32) (qm_seed : Int32) (qm_line : Nat) (qm_written : Nat) (qm_lineMany : Int32) (qm_hasWritten : Int32) (qm_node : Nat) (qm_nodes : Int32) (qm_onesMany : Int32) (qm_within : Int32) (qm_top : Int32) (qm_text_c : Nat → Int32) (hi_qm_texts : 0 ≤ qm_texts.toInt ∧ qm_texts.toInt ≤ 64) (hr_0 : a1.toInt < 150094635296999121) (hr_1 : qm_texts.toInt + 12 ≤ 64) : Cv l yX11_writeWord cX11_writeWord 3 12 0 0 G [.ref qm, .long a1] [(qm, .inr (10, [.int qm_thrown, .ref qm_tape, .int qm_taped, .int qm_size, .int qm_limit, .int qm_to, .int qm_from, .int qm_kind, .int qm_number, .int qm_sign, .int qm_fault, .int qm_place, .long qm_word, .int qm_told, .ref qm_now, .ref qm_read, .ref qm_kept, .ref qm_snaps, .ref qm_aside, .ref qm_name, .ref qm_readName, .ref qm_keptName, .ref qm_isKept, .ref qm_onces, .int qm_snapMany, .ref qm_order, .ref qm_ordered, .int qm_orderMany, .int qm_orderMost, .int qm_passing, .int qm_movedWho, .int qm_scratched, .ref qm_text, .int qm_texts, .int qm_seed, .ref qm_line, .ref qm_written, .int qm_lineMany, .int qm_hasWritten, .ref qm_node, .int qm_nodes, .int qm_onesMany, .int qm_within, .int qm_top])), (qm_text, eI G 64 qm_text_c)] (fun (u9 : va_W) => ∃ (x0_qm_texts : Int32) (x1_qm_text_c : Nat → Int32), u9 = [(qm, .inr (10, [.int qm_thrown, .ref qm_tape, .int qm_taped, .int qm_size, .int qm_limit, .int qm_to, .int qm_from, .int qm_kind, .int qm_number, .int qm_sign, .int qm_fault, .int qm_place, .long qm_word, .int qm_told, .ref qm_now, .ref qm_read, .ref qm_kept, .ref qm_snaps, .ref qm_aside, .ref qm_name, .ref qm_readName, .ref qm_keptName, .ref qm_isKept, .ref qm_onces, .int qm_snapMany, .ref qm_order, .ref qm_ordered, .int qm_orderMany, .int qm_orderMost, .int qm_passing, .int qm_movedWho, .int qm_scratched, .ref qm_text, .int x0_qm_texts, .int qm_seed, .ref qm_line, .ref qm_written, .int qm_lineMany, .int qm_hasWritten, .ref qm_node, .int qm_nodes, .int qm_onesMany, .int qm_within, .int qm_top])), (qm_text, eI G 64 x1_qm_text_c)] ∧ (1 ≤ x0_qm_texts.toInt ∧ x0_qm_texts.toInt ≤ 64) ∧ (qm_texts.toInt ≤ x0_qm_texts.toInt ∧ x0_qm_texts.toInt ≤ qm_texts.toInt + 12)) := by
  refine Cv.ofQ (by decide) (Nat.le_of_ble_eq_true rfl) ?_
  intro p e s m below meth c ls A args Q hQ B hw hl
  have C : CallFix p m c cX11_writeWord 3 s args gw "LanternStateModel" := B.1
  have hl : lv_has ls 3 [(0, .ref qm), (1, .long a1)] := hl
  refine lv_lload_n C.1 C.2.1 dX11_writeWord_0 rfl (lv_at hl 1 rfl) ?_
  refine lv_ldc2 (v := 27) C.1 C.2.1 C.2.2.2.1 (C.2.2.2.2 _ kw1353) dX11_writeWord_1 ?_
  refine W.lcmp C.1 C.2.1 dX11_writeWord_4 (x_genP (fun z : Int32 => 0 ≤ z.toInt ↔ 27 ≤ a1.toInt) (l_cmp rfl rfl) (fun v1 hv1 => ?_))
  refine lv_if_lt (tgt := 17) C.1 C.2.1 dX11_writeWord_5 (by decide) (fun c2 => ?_) (fun c2 => ?_)
  · skip
    have c2 : v1.toInt < 0 := i_ltT (X := v1.toInt) (Y := 0) rfl rfl c2
    have bc2_v1 := i_bd v1
    refine lv_aload_n C.1 C.2.1 dX11_writeWord_17 rfl (lv_at hl 0 rfl) ?_
    refine lv_bipush (v := 96) C.1 C.2.1 dX11_writeWord_18 (by decide) ?_
    refine lv_lload_n C.1 C.2.1 dX11_writeWord_20 rfl (lv_at hl 1 rfl) ?_
    refine lv_ldc2 (v := 27) C.1 C.2.1 C.2.2.2.1 (C.2.2.2.2 _ kw1353) dX11_writeWord_21 ?_
    refine lv_lrem C.1 C.2.1 dX11_writeWord_24 (by decide) (x_genl (fun v3 => ?_))
    refine lv_l2i (v := v3.toInt32) C.1 C.2.1 dX11_writeWord_25 rfl (x_gen (fun v4 => ?_))
    refine lv_iadd C.1 C.2.1 dX11_writeWord_26 (x_gen (fun v5 => ?_))
    refine x_callvV (As := [.int v5]) (rest := []) (wr := []) C hw (s_X11_write qm v5 qm_thrown qm_tape qm_taped qm_size qm_limit qm_to qm_from qm_kind qm_number qm_sign qm_fault qm_place qm_word qm_told qm_now qm_read qm_kept qm_snaps qm_aside qm_name qm_readName qm_keptName qm_isKept qm_onces qm_snapMany qm_order qm_ordered qm_orderMany qm_orderMost qm_passing qm_movedWho qm_scratched qm_text qm_texts qm_seed qm_line qm_written qm_lineMany qm_hasWritten qm_node qm_nodes qm_onesMany qm_within qm_top qm_text_c (by omega) (by omega)) mwX11_write kw1675 [0, 1] [] rfl rfl rfl rfl (by decide) 0 rfl rfl rfl rfl hl.1 rfl (Nat.le_of_ble_eq_true rfl) ⟨(Nat.le_of_ble_eq_true rfl), (Nat.le_of_ble_eq_true rfl)⟩ ⟨(Nat.le_of_ble_eq_true rfl), (Nat.le_of_ble_eq_true rfl)⟩ dX11_writeWord_27 (fun  u9 H locs hp9 hw => ?_)
    obtain ⟨x6, x7, rfl, hf8, hf9⟩ := hp9
    have hw : Wd G s A [(qm, .inr (10, [.int qm_thrown, .ref qm_tape, .int qm_taped, .int qm_size, .int qm_limit, .int qm_to, .int qm_from, .int qm_kind, .int qm_number, .int qm_sign, .int qm_fault, .int qm_place, .long qm_word, .int qm_told, .ref qm_now, .ref qm_read, .ref qm_kept, .ref qm_snaps, .ref qm_aside, .ref qm_name, .ref qm_readName, .ref qm_keptName, .ref qm_isKept, .ref qm_onces, .int qm_snapMany, .ref qm_order, .ref qm_ordered, .int qm_orderMany, .int qm_orderMost, .int qm_passing, .int qm_movedWho, .int qm_scratched, .ref qm_text, .int x6, .int qm_seed, .ref qm_line, .ref qm_written, .int qm_lineMany, .int qm_hasWritten, .ref qm_node, .int qm_nodes, .int qm_onesMany, .int qm_within, .int qm_top])), (qm_text, eI G 64 x7)] H _ := hw
    exact x_retvQ hQ B hw ⟨x6, x7, rfl, (by omega), (by omega)⟩ (Nat.le_of_ble_eq_true rfl) (Nat.le_of_ble_eq_true rfl) dX11_writeWord_30
  · skip
    have c2 : 0 ≤ v1.toInt := i_ltF (X := v1.toInt) (Y := 0) rfl rfl c2
    have bc2_v1 := i_bd v1
    refine lv_aload_n C.1 C.2.1 dX11_writeWord_8 rfl (lv_at hl 0 rfl) ?_
    refine lv_lload_n C.1 C.2.1 dX11_writeWord_9 rfl (lv_at hl 1 rfl) ?_
    refine lv_ldc2 (v := 27) C.1 C.2.1 C.2.2.2.1 (C.2.2.2.2 _ kw1353) dX11_writeWord_10 ?_
    refine lv_ldiv C.1 C.2.1 dX11_writeWord_13 (by decide) (x_genlP (fun z : Int64 => z.toInt = a1.toInt / 27) (l_div27 rfl (by omega)) (fun v10 hv10 => ?_))
    refine x_callvV (As := [.long v10]) (rest := []) (wr := []) C hw (s_X11_writeWord_11 qm v10 qm_thrown qm_tape qm_taped qm_size qm_limit qm_to qm_from qm_kind qm_number qm_sign qm_fault qm_place qm_word qm_told qm_now qm_read qm_kept qm_snaps qm_aside qm_name qm_readName qm_keptName qm_isKept qm_onces qm_snapMany qm_order qm_ordered qm_orderMany qm_orderMost qm_passing qm_movedWho qm_scratched qm_text qm_texts qm_seed qm_line qm_written qm_lineMany qm_hasWritten qm_node qm_nodes qm_onesMany qm_within qm_top qm_text_c (by omega) (by omega) (by omega)) mwX11_writeWord kw1671 [0, 1] [] rfl rfl rfl rfl (by decide) 0 rfl rfl rfl rfl hl.1 rfl (Nat.le_of_ble_eq_true rfl) ⟨(Nat.le_of_ble_eq_true rfl), (Nat.le_of_ble_eq_true rfl)⟩ ⟨(Nat.le_of_ble_eq_true rfl), (Nat.le_of_ble_eq_true rfl)⟩ dX11_writeWord_14 (fun  u9 H locs hp9 hw => ?_)
    obtain ⟨x11, x12, rfl, hf13, hf14⟩ := hp9
    have hw : Wd G s A [(qm, .inr (10, [.int qm_thrown, .ref qm_tape, .int qm_taped, .int qm_size, .int qm_limit, .int qm_to, .int qm_from, .int qm_kind, .int qm_number, .int qm_sign, .int qm_fault, .int qm_place, .long qm_word, .int qm_told, .ref qm_now, .ref qm_read, .ref qm_kept, .ref qm_snaps, .ref qm_aside, .ref qm_name, .ref qm_readName, .ref qm_keptName, .ref qm_isKept, .ref qm_onces, .int qm_snapMany, .ref qm_order, .ref qm_ordered, .int qm_orderMany, .int qm_orderMost, .int qm_passing, .int qm_movedWho, .int qm_scratched, .ref qm_text, .int x11, .int qm_seed, .ref qm_line, .ref qm_written, .int qm_lineMany, .int qm_hasWritten, .ref qm_node, .int qm_nodes, .int qm_onesMany, .int qm_within, .int qm_top])), (qm_text, eI G 64 x12)] H _ := hw
    refine lv_aload_n C.1 C.2.1 dX11_writeWord_17 rfl (lv_at hl 0 rfl) ?_
    refine lv_bipush (v := 96) C.1 C.2.1 dX11_writeWord_18 (by decide) ?_
    refine lv_lload_n C.1 C.2.1 dX11_writeWord_20 rfl (lv_at hl 1 rfl) ?_
    refine lv_ldc2 (v := 27) C.1 C.2.1 C.2.2.2.1 (C.2.2.2.2 _ kw1353) dX11_writeWord_21 ?_
    refine lv_lrem C.1 C.2.1 dX11_writeWord_24 (by decide) (x_genl (fun v15 => ?_))
    refine lv_l2i (v := v15.toInt32) C.1 C.2.1 dX11_writeWord_25 rfl (x_gen (fun v16 => ?_))
    refine lv_iadd C.1 C.2.1 dX11_writeWord_26 (x_gen (fun v17 => ?_))
    refine x_callvV (As := [.int v17]) (rest := []) (wr := []) C hw (s_X11_write qm v17 qm_thrown qm_tape qm_taped qm_size qm_limit qm_to qm_from qm_kind qm_number qm_sign qm_fault qm_place qm_word qm_told qm_now qm_read qm_kept qm_snaps qm_aside qm_name qm_readName qm_keptName qm_isKept qm_onces qm_snapMany qm_order qm_ordered qm_orderMany qm_orderMost qm_passing qm_movedWho qm_scratched qm_text x11 qm_seed qm_line qm_written qm_lineMany qm_hasWritten qm_node qm_nodes qm_onesMany qm_within qm_top x12 (by omega) (by omega)) mwX11_write kw1675 [0, 1] [] rfl rfl rfl rfl (by decide) 0 rfl rfl rfl rfl hl.1 rfl (Nat.le_of_ble_eq_true rfl) ⟨(Nat.le_of_ble_eq_true rfl), (Nat.le_of_ble_eq_true rfl)⟩ ⟨(Nat.le_of_ble_eq_true rfl), (Nat.le_of_ble_eq_true rfl)⟩ dX11_writeWord_27 (fun  u9 H locs hp9 hw => ?_)
    obtain ⟨x18, x19, rfl, hf20, hf21⟩ := hp9
    have hw : Wd G s A [(qm, .inr (10, [.int qm_thrown, .ref qm_tape, .int qm_taped, .int qm_size, .int qm_limit, .int qm_to, .int qm_from, .int qm_kind, .int qm_number, .int qm_sign, .int qm_fault, .int qm_place, .long qm_word, .int qm_told, .ref qm_now, .ref qm_read, .ref qm_kept, .ref qm_snaps, .ref qm_aside, .ref qm_name, .ref qm_readName, .ref qm_keptName, .ref qm_isKept, .ref qm_onces, .int qm_snapMany, .ref qm_order, .ref qm_ordered, .int qm_orderMany, .int qm_orderMost, .int qm_passing, .int qm_movedWho, .int qm_scratched, .ref qm_text, .int x18, .int qm_seed, .ref qm_line, .ref qm_written, .int qm_lineMany, .int qm_hasWritten, .ref qm_node, .int qm_nodes, .int qm_onesMany, .int qm_within, .int qm_top])), (qm_text, eI G 64 x19)] H _ := hw
    exact x_retvQ hQ B hw ⟨x18, x19, rfl, (by omega), (by omega)⟩ (Nat.le_of_ble_eq_true rfl) (Nat.le_of_ble_eq_true rfl) dX11_writeWord_30
set_option maxHeartbeats 4000000 in
set_option maxRecDepth 100000 in
theorem s_X11_writeWord_13 {l : Launch} {G : Gc} (qm : Nat) (a1 : Int64) (qm_thrown : Int32) (qm_tape : Nat) (qm_taped : Int32) (qm_size : Int32) (qm_limit : Int32) (qm_to : Int32) (qm_from : Int32) (qm_kind : Int32) (qm_number : Int32) (qm_sign : Int32) (qm_fault : Int32) (qm_place : Int32) (qm_word : Int64) (qm_told : Int32) (qm_now : Nat) (qm_read : Nat) (qm_kept : Nat) (qm_snaps : Nat) (qm_aside : Nat) (qm_name : Nat) (qm_readName : Nat) (qm_keptName : Nat) (qm_isKept : Nat) (qm_onces : Nat) (qm_snapMany : Int32) (qm_order : Nat) (qm_ordered : Nat) (qm_orderMany : Int32) (qm_orderMost : Int32) (qm_passing : Int32) (qm_movedWho : Int32) (qm_scratched : Int32) (qm_text : Nat) (qm_texts : Int32) (qm_seed : Int32) (qm_line : Nat) (qm_written : Nat) (qm_lineMany : Int32) (qm_hasWritten : Int32) (qm_node : Nat) (qm_nodes : Int32) (qm_onesMany : Int32) (qm_within : Int32) (qm_top : Int32) (qm_text_c : Nat → Int32) (hi_qm_texts : 0 ≤ qm_texts.toInt ∧ qm_texts.toInt ≤ 64) (hr_0 : a1.toInt < 4052555153018976267) (hr_1 : qm_texts.toInt + 13 ≤ 64) : Cv l yX11_writeWord cX11_writeWord 3 13 0 0 G [.ref qm, .long a1] [(qm, .inr (10, [.int qm_thrown, .ref qm_tape, .int qm_taped, .int qm_size, .int qm_limit, .int qm_to, .int qm_from, .int qm_kind, .int qm_number, .int qm_sign, .int qm_fault, .int qm_place, .long qm_word, .int qm_told, .ref qm_now, .ref qm_read, .ref qm_kept, .ref qm_snaps, .ref qm_aside, .ref qm_name, .ref qm_readName, .ref qm_keptName, .ref qm_isKept, .ref qm_onces, .int qm_snapMany, .ref qm_order, .ref qm_ordered, .int qm_orderMany, .int qm_orderMost, .int qm_passing, .int qm_movedWho, .int qm_scratched, .ref qm_text, .int qm_texts, .int qm_seed, .ref qm_line, .ref qm_written, .int qm_lineMany, .int qm_hasWritten, .ref qm_node, .int qm_nodes, .int qm_onesMany, .int qm_within, .int qm_top])), (qm_text, eI G 64 qm_text_c)] (fun (u9 : va_W) => ∃ (x0_qm_texts : Int32) (x1_qm_text_c : Nat → Int32), u9 = [(qm, .inr (10, [.int qm_thrown, .ref qm_tape, .int qm_taped, .int qm_size, .int qm_limit, .int qm_to, .int qm_from, .int qm_kind, .int qm_number, .int qm_sign, .int qm_fault, .int qm_place, .long qm_word, .int qm_told, .ref qm_now, .ref qm_read, .ref qm_kept, .ref qm_snaps, .ref qm_aside, .ref qm_name, .ref qm_readName, .ref qm_keptName, .ref qm_isKept, .ref qm_onces, .int qm_snapMany, .ref qm_order, .ref qm_ordered, .int qm_orderMany, .int qm_orderMost, .int qm_passing, .int qm_movedWho, .int qm_scratched, .ref qm_text, .int x0_qm_texts, .int qm_seed, .ref qm_line, .ref qm_written, .int qm_lineMany, .int qm_hasWritten, .ref qm_node, .int qm_nodes, .int qm_onesMany, .int qm_within, .int qm_top])), (qm_text, eI G 64 x1_qm_text_c)] ∧ (1 ≤ x0_qm_texts.toInt ∧ x0_qm_texts.toInt ≤ 64) ∧ (qm_texts.toInt ≤ x0_qm_texts.toInt ∧ x0_qm_texts.toInt ≤ qm_texts.toInt + 13)) := by
  refine Cv.ofQ (by decide) (Nat.le_of_ble_eq_true rfl) ?_
  intro p e s m below meth c ls A args Q hQ B hw hl
  have C : CallFix p m c cX11_writeWord 3 s args gw "LanternStateModel" := B.1
  have hl : lv_has ls 3 [(0, .ref qm), (1, .long a1)] := hl
  refine lv_lload_n C.1 C.2.1 dX11_writeWord_0 rfl (lv_at hl 1 rfl) ?_
  refine lv_ldc2 (v := 27) C.1 C.2.1 C.2.2.2.1 (C.2.2.2.2 _ kw1353) dX11_writeWord_1 ?_
  refine W.lcmp C.1 C.2.1 dX11_writeWord_4 (x_genP (fun z : Int32 => 0 ≤ z.toInt ↔ 27 ≤ a1.toInt) (l_cmp rfl rfl) (fun v1 hv1 => ?_))
  refine lv_if_lt (tgt := 17) C.1 C.2.1 dX11_writeWord_5 (by decide) (fun c2 => ?_) (fun c2 => ?_)
  · skip
    have c2 : v1.toInt < 0 := i_ltT (X := v1.toInt) (Y := 0) rfl rfl c2
    have bc2_v1 := i_bd v1
    refine lv_aload_n C.1 C.2.1 dX11_writeWord_17 rfl (lv_at hl 0 rfl) ?_
    refine lv_bipush (v := 96) C.1 C.2.1 dX11_writeWord_18 (by decide) ?_
    refine lv_lload_n C.1 C.2.1 dX11_writeWord_20 rfl (lv_at hl 1 rfl) ?_
    refine lv_ldc2 (v := 27) C.1 C.2.1 C.2.2.2.1 (C.2.2.2.2 _ kw1353) dX11_writeWord_21 ?_
    refine lv_lrem C.1 C.2.1 dX11_writeWord_24 (by decide) (x_genl (fun v3 => ?_))
    refine lv_l2i (v := v3.toInt32) C.1 C.2.1 dX11_writeWord_25 rfl (x_gen (fun v4 => ?_))
    refine lv_iadd C.1 C.2.1 dX11_writeWord_26 (x_gen (fun v5 => ?_))
    refine x_callvV (As := [.int v5]) (rest := []) (wr := []) C hw (s_X11_write qm v5 qm_thrown qm_tape qm_taped qm_size qm_limit qm_to qm_from qm_kind qm_number qm_sign qm_fault qm_place qm_word qm_told qm_now qm_read qm_kept qm_snaps qm_aside qm_name qm_readName qm_keptName qm_isKept qm_onces qm_snapMany qm_order qm_ordered qm_orderMany qm_orderMost qm_passing qm_movedWho qm_scratched qm_text qm_texts qm_seed qm_line qm_written qm_lineMany qm_hasWritten qm_node qm_nodes qm_onesMany qm_within qm_top qm_text_c (by omega) (by omega)) mwX11_write kw1675 [0, 1] [] rfl rfl rfl rfl (by decide) 0 rfl rfl rfl rfl hl.1 rfl (Nat.le_of_ble_eq_true rfl) ⟨(Nat.le_of_ble_eq_true rfl), (Nat.le_of_ble_eq_true rfl)⟩ ⟨(Nat.le_of_ble_eq_true rfl), (Nat.le_of_ble_eq_true rfl)⟩ dX11_writeWord_27 (fun  u9 H locs hp9 hw => ?_)
    obtain ⟨x6, x7, rfl, hf8, hf9⟩ := hp9
    have hw : Wd G s A [(qm, .inr (10, [.int qm_thrown, .ref qm_tape, .int qm_taped, .int qm_size, .int qm_limit, .int qm_to, .int qm_from, .int qm_kind, .int qm_number, .int qm_sign, .int qm_fault, .int qm_place, .long qm_word, .int qm_told, .ref qm_now, .ref qm_read, .ref qm_kept, .ref qm_snaps, .ref qm_aside, .ref qm_name, .ref qm_readName, .ref qm_keptName, .ref qm_isKept, .ref qm_onces, .int qm_snapMany, .ref qm_order, .ref qm_ordered, .int qm_orderMany, .int qm_orderMost, .int qm_passing, .int qm_movedWho, .int qm_scratched, .ref qm_text, .int x6, .int qm_seed, .ref qm_line, .ref qm_written, .int qm_lineMany, .int qm_hasWritten, .ref qm_node, .int qm_nodes, .int qm_onesMany, .int qm_within, .int qm_top])), (qm_text, eI G 64 x7)] H _ := hw
    exact x_retvQ hQ B hw ⟨x6, x7, rfl, (by omega), (by omega)⟩ (Nat.le_of_ble_eq_true rfl) (Nat.le_of_ble_eq_true rfl) dX11_writeWord_30
  · skip
    have c2 : 0 ≤ v1.toInt := i_ltF (X := v1.toInt) (Y := 0) rfl rfl c2
    have bc2_v1 := i_bd v1
    refine lv_aload_n C.1 C.2.1 dX11_writeWord_8 rfl (lv_at hl 0 rfl) ?_
    refine lv_lload_n C.1 C.2.1 dX11_writeWord_9 rfl (lv_at hl 1 rfl) ?_
    refine lv_ldc2 (v := 27) C.1 C.2.1 C.2.2.2.1 (C.2.2.2.2 _ kw1353) dX11_writeWord_10 ?_
    refine lv_ldiv C.1 C.2.1 dX11_writeWord_13 (by decide) (x_genlP (fun z : Int64 => z.toInt = a1.toInt / 27) (l_div27 rfl (by omega)) (fun v10 hv10 => ?_))
    refine x_callvV (As := [.long v10]) (rest := []) (wr := []) C hw (s_X11_writeWord_12 qm v10 qm_thrown qm_tape qm_taped qm_size qm_limit qm_to qm_from qm_kind qm_number qm_sign qm_fault qm_place qm_word qm_told qm_now qm_read qm_kept qm_snaps qm_aside qm_name qm_readName qm_keptName qm_isKept qm_onces qm_snapMany qm_order qm_ordered qm_orderMany qm_orderMost qm_passing qm_movedWho qm_scratched qm_text qm_texts qm_seed qm_line qm_written qm_lineMany qm_hasWritten qm_node qm_nodes qm_onesMany qm_within qm_top qm_text_c (by omega) (by omega) (by omega)) mwX11_writeWord kw1671 [0, 1] [] rfl rfl rfl rfl (by decide) 0 rfl rfl rfl rfl hl.1 rfl (Nat.le_of_ble_eq_true rfl) ⟨(Nat.le_of_ble_eq_true rfl), (Nat.le_of_ble_eq_true rfl)⟩ ⟨(Nat.le_of_ble_eq_true rfl), (Nat.le_of_ble_eq_true rfl)⟩ dX11_writeWord_14 (fun  u9 H locs hp9 hw => ?_)
    obtain ⟨x11, x12, rfl, hf13, hf14⟩ := hp9
    have hw : Wd G s A [(qm, .inr (10, [.int qm_thrown, .ref qm_tape, .int qm_taped, .int qm_size, .int qm_limit, .int qm_to, .int qm_from, .int qm_kind, .int qm_number, .int qm_sign, .int qm_fault, .int qm_place, .long qm_word, .int qm_told, .ref qm_now, .ref qm_read, .ref qm_kept, .ref qm_snaps, .ref qm_aside, .ref qm_name, .ref qm_readName, .ref qm_keptName, .ref qm_isKept, .ref qm_onces, .int qm_snapMany, .ref qm_order, .ref qm_ordered, .int qm_orderMany, .int qm_orderMost, .int qm_passing, .int qm_movedWho, .int qm_scratched, .ref qm_text, .int x11, .int qm_seed, .ref qm_line, .ref qm_written, .int qm_lineMany, .int qm_hasWritten, .ref qm_node, .int qm_nodes, .int qm_onesMany, .int qm_within, .int qm_top])), (qm_text, eI G 64 x12)] H _ := hw
    refine lv_aload_n C.1 C.2.1 dX11_writeWord_17 rfl (lv_at hl 0 rfl) ?_
    refine lv_bipush (v := 96) C.1 C.2.1 dX11_writeWord_18 (by decide) ?_
    refine lv_lload_n C.1 C.2.1 dX11_writeWord_20 rfl (lv_at hl 1 rfl) ?_
    refine lv_ldc2 (v := 27) C.1 C.2.1 C.2.2.2.1 (C.2.2.2.2 _ kw1353) dX11_writeWord_21 ?_
    refine lv_lrem C.1 C.2.1 dX11_writeWord_24 (by decide) (x_genl (fun v15 => ?_))
    refine lv_l2i (v := v15.toInt32) C.1 C.2.1 dX11_writeWord_25 rfl (x_gen (fun v16 => ?_))
    refine lv_iadd C.1 C.2.1 dX11_writeWord_26 (x_gen (fun v17 => ?_))
    refine x_callvV (As := [.int v17]) (rest := []) (wr := []) C hw (s_X11_write qm v17 qm_thrown qm_tape qm_taped qm_size qm_limit qm_to qm_from qm_kind qm_number qm_sign qm_fault qm_place qm_word qm_told qm_now qm_read qm_kept qm_snaps qm_aside qm_name qm_readName qm_keptName qm_isKept qm_onces qm_snapMany qm_order qm_ordered qm_orderMany qm_orderMost qm_passing qm_movedWho qm_scratched qm_text x11 qm_seed qm_line qm_written qm_lineMany qm_hasWritten qm_node qm_nodes qm_onesMany qm_within qm_top x12 (by omega) (by omega)) mwX11_write kw1675 [0, 1] [] rfl rfl rfl rfl (by decide) 0 rfl rfl rfl rfl hl.1 rfl (Nat.le_of_ble_eq_true rfl) ⟨(Nat.le_of_ble_eq_true rfl), (Nat.le_of_ble_eq_true rfl)⟩ ⟨(Nat.le_of_ble_eq_true rfl), (Nat.le_of_ble_eq_true rfl)⟩ dX11_writeWord_27 (fun  u9 H locs hp9 hw => ?_)
    obtain ⟨x18, x19, rfl, hf20, hf21⟩ := hp9
    have hw : Wd G s A [(qm, .inr (10, [.int qm_thrown, .ref qm_tape, .int qm_taped, .int qm_size, .int qm_limit, .int qm_to, .int qm_from, .int qm_kind, .int qm_number, .int qm_sign, .int qm_fault, .int qm_place, .long qm_word, .int qm_told, .ref qm_now, .ref qm_read, .ref qm_kept, .ref qm_snaps, .ref qm_aside, .ref qm_name, .ref qm_readName, .ref qm_keptName, .ref qm_isKept, .ref qm_onces, .int qm_snapMany, .ref qm_order, .ref qm_ordered, .int qm_orderMany, .int qm_orderMost, .int qm_passing, .int qm_movedWho, .int qm_scratched, .ref qm_text, .int x18, .int qm_seed, .ref qm_line, .ref qm_written, .int qm_lineMany, .int qm_hasWritten, .ref qm_node, .int qm_nodes, .int qm_onesMany, .int qm_within, .int qm_top])), (qm_text, eI G 64 x19)] H _ := hw
    exact x_retvQ hQ B hw ⟨x18, x19, rfl, (by omega), (by omega)⟩ (Nat.le_of_ble_eq_true rfl) (Nat.le_of_ble_eq_true rfl) dX11_writeWord_30
set_option maxHeartbeats 4000000 in
set_option maxRecDepth 100000 in
theorem s_X11_writeWord_14 {l : Launch} {G : Gc} (qm : Nat) (a1 : Int64) (qm_thrown : Int32) (qm_tape : Nat) (qm_taped : Int32) (qm_size : Int32) (qm_limit : Int32) (qm_to : Int32) (qm_from : Int32) (qm_kind : Int32) (qm_number : Int32) (qm_sign : Int32) (qm_fault : Int32) (qm_place : Int32) (qm_word : Int64) (qm_told : Int32) (qm_now : Nat) (qm_read : Nat) (qm_kept : Nat) (qm_snaps : Nat) (qm_aside : Nat) (qm_name : Nat) (qm_readName : Nat) (qm_keptName : Nat) (qm_isKept : Nat) (qm_onces : Nat) (qm_snapMany : Int32) (qm_order : Nat) (qm_ordered : Nat) (qm_orderMany : Int32) (qm_orderMost : Int32) (qm_passing : Int32) (qm_movedWho : Int32) (qm_scratched : Int32) (qm_text : Nat) (qm_texts : Int32) (qm_seed : Int32) (qm_line : Nat) (qm_written : Nat) (qm_lineMany : Int32) (qm_hasWritten : Int32) (qm_node : Nat) (qm_nodes : Int32) (qm_onesMany : Int32) (qm_within : Int32) (qm_top : Int32) (qm_text_c : Nat → Int32) (hi_qm_texts : 0 ≤ qm_texts.toInt ∧ qm_texts.toInt ≤ 64) (hr_0 : a1.toInt < 109418989131512359209) (hr_1 : qm_texts.toInt + 14 ≤ 64) : Cv l yX11_writeWord cX11_writeWord 3 14 0 0 G [.ref qm, .long a1] [(qm, .inr (10, [.int qm_thrown, .ref qm_tape, .int qm_taped, .int qm_size, .int qm_limit, .int qm_to, .int qm_from, .int qm_kind, .int qm_number, .int qm_sign, .int qm_fault, .int qm_place, .long qm_word, .int qm_told, .ref qm_now, .ref qm_read, .ref qm_kept, .ref qm_snaps, .ref qm_aside, .ref qm_name, .ref qm_readName, .ref qm_keptName, .ref qm_isKept, .ref qm_onces, .int qm_snapMany, .ref qm_order, .ref qm_ordered, .int qm_orderMany, .int qm_orderMost, .int qm_passing, .int qm_movedWho, .int qm_scratched, .ref qm_text, .int qm_texts, .int qm_seed, .ref qm_line, .ref qm_written, .int qm_lineMany, .int qm_hasWritten, .ref qm_node, .int qm_nodes, .int qm_onesMany, .int qm_within, .int qm_top])), (qm_text, eI G 64 qm_text_c)] (fun (u9 : va_W) => ∃ (x0_qm_texts : Int32) (x1_qm_text_c : Nat → Int32), u9 = [(qm, .inr (10, [.int qm_thrown, .ref qm_tape, .int qm_taped, .int qm_size, .int qm_limit, .int qm_to, .int qm_from, .int qm_kind, .int qm_number, .int qm_sign, .int qm_fault, .int qm_place, .long qm_word, .int qm_told, .ref qm_now, .ref qm_read, .ref qm_kept, .ref qm_snaps, .ref qm_aside, .ref qm_name, .ref qm_readName, .ref qm_keptName, .ref qm_isKept, .ref qm_onces, .int qm_snapMany, .ref qm_order, .ref qm_ordered, .int qm_orderMany, .int qm_orderMost, .int qm_passing, .int qm_movedWho, .int qm_scratched, .ref qm_text, .int x0_qm_texts, .int qm_seed, .ref qm_line, .ref qm_written, .int qm_lineMany, .int qm_hasWritten, .ref qm_node, .int qm_nodes, .int qm_onesMany, .int qm_within, .int qm_top])), (qm_text, eI G 64 x1_qm_text_c)] ∧ (1 ≤ x0_qm_texts.toInt ∧ x0_qm_texts.toInt ≤ 64) ∧ (qm_texts.toInt ≤ x0_qm_texts.toInt ∧ x0_qm_texts.toInt ≤ qm_texts.toInt + 14)) := by
  refine Cv.ofQ (by decide) (Nat.le_of_ble_eq_true rfl) ?_
  intro p e s m below meth c ls A args Q hQ B hw hl
  have C : CallFix p m c cX11_writeWord 3 s args gw "LanternStateModel" := B.1
  have hl : lv_has ls 3 [(0, .ref qm), (1, .long a1)] := hl
  refine lv_lload_n C.1 C.2.1 dX11_writeWord_0 rfl (lv_at hl 1 rfl) ?_
  refine lv_ldc2 (v := 27) C.1 C.2.1 C.2.2.2.1 (C.2.2.2.2 _ kw1353) dX11_writeWord_1 ?_
  refine W.lcmp C.1 C.2.1 dX11_writeWord_4 (x_genP (fun z : Int32 => 0 ≤ z.toInt ↔ 27 ≤ a1.toInt) (l_cmp rfl rfl) (fun v1 hv1 => ?_))
  refine lv_if_lt (tgt := 17) C.1 C.2.1 dX11_writeWord_5 (by decide) (fun c2 => ?_) (fun c2 => ?_)
  · skip
    have c2 : v1.toInt < 0 := i_ltT (X := v1.toInt) (Y := 0) rfl rfl c2
    have bc2_v1 := i_bd v1
    refine lv_aload_n C.1 C.2.1 dX11_writeWord_17 rfl (lv_at hl 0 rfl) ?_
    refine lv_bipush (v := 96) C.1 C.2.1 dX11_writeWord_18 (by decide) ?_
    refine lv_lload_n C.1 C.2.1 dX11_writeWord_20 rfl (lv_at hl 1 rfl) ?_
    refine lv_ldc2 (v := 27) C.1 C.2.1 C.2.2.2.1 (C.2.2.2.2 _ kw1353) dX11_writeWord_21 ?_
    refine lv_lrem C.1 C.2.1 dX11_writeWord_24 (by decide) (x_genl (fun v3 => ?_))
    refine lv_l2i (v := v3.toInt32) C.1 C.2.1 dX11_writeWord_25 rfl (x_gen (fun v4 => ?_))
    refine lv_iadd C.1 C.2.1 dX11_writeWord_26 (x_gen (fun v5 => ?_))
    refine x_callvV (As := [.int v5]) (rest := []) (wr := []) C hw (s_X11_write qm v5 qm_thrown qm_tape qm_taped qm_size qm_limit qm_to qm_from qm_kind qm_number qm_sign qm_fault qm_place qm_word qm_told qm_now qm_read qm_kept qm_snaps qm_aside qm_name qm_readName qm_keptName qm_isKept qm_onces qm_snapMany qm_order qm_ordered qm_orderMany qm_orderMost qm_passing qm_movedWho qm_scratched qm_text qm_texts qm_seed qm_line qm_written qm_lineMany qm_hasWritten qm_node qm_nodes qm_onesMany qm_within qm_top qm_text_c (by omega) (by omega)) mwX11_write kw1675 [0, 1] [] rfl rfl rfl rfl (by decide) 0 rfl rfl rfl rfl hl.1 rfl (Nat.le_of_ble_eq_true rfl) ⟨(Nat.le_of_ble_eq_true rfl), (Nat.le_of_ble_eq_true rfl)⟩ ⟨(Nat.le_of_ble_eq_true rfl), (Nat.le_of_ble_eq_true rfl)⟩ dX11_writeWord_27 (fun  u9 H locs hp9 hw => ?_)
    obtain ⟨x6, x7, rfl, hf8, hf9⟩ := hp9
    have hw : Wd G s A [(qm, .inr (10, [.int qm_thrown, .ref qm_tape, .int qm_taped, .int qm_size, .int qm_limit, .int qm_to, .int qm_from, .int qm_kind, .int qm_number, .int qm_sign, .int qm_fault, .int qm_place, .long qm_word, .int qm_told, .ref qm_now, .ref qm_read, .ref qm_kept, .ref qm_snaps, .ref qm_aside, .ref qm_name, .ref qm_readName, .ref qm_keptName, .ref qm_isKept, .ref qm_onces, .int qm_snapMany, .ref qm_order, .ref qm_ordered, .int qm_orderMany, .int qm_orderMost, .int qm_passing, .int qm_movedWho, .int qm_scratched, .ref qm_text, .int x6, .int qm_seed, .ref qm_line, .ref qm_written, .int qm_lineMany, .int qm_hasWritten, .ref qm_node, .int qm_nodes, .int qm_onesMany, .int qm_within, .int qm_top])), (qm_text, eI G 64 x7)] H _ := hw
    exact x_retvQ hQ B hw ⟨x6, x7, rfl, (by omega), (by omega)⟩ (Nat.le_of_ble_eq_true rfl) (Nat.le_of_ble_eq_true rfl) dX11_writeWord_30
  · skip
    have c2 : 0 ≤ v1.toInt := i_ltF (X := v1.toInt) (Y := 0) rfl rfl c2
    have bc2_v1 := i_bd v1
    refine lv_aload_n C.1 C.2.1 dX11_writeWord_8 rfl (lv_at hl 0 rfl) ?_
    refine lv_lload_n C.1 C.2.1 dX11_writeWord_9 rfl (lv_at hl 1 rfl) ?_
    refine lv_ldc2 (v := 27) C.1 C.2.1 C.2.2.2.1 (C.2.2.2.2 _ kw1353) dX11_writeWord_10 ?_
    refine lv_ldiv C.1 C.2.1 dX11_writeWord_13 (by decide) (x_genlP (fun z : Int64 => z.toInt = a1.toInt / 27) (l_div27 rfl (by omega)) (fun v10 hv10 => ?_))
    refine x_callvV (As := [.long v10]) (rest := []) (wr := []) C hw (s_X11_writeWord_13 qm v10 qm_thrown qm_tape qm_taped qm_size qm_limit qm_to qm_from qm_kind qm_number qm_sign qm_fault qm_place qm_word qm_told qm_now qm_read qm_kept qm_snaps qm_aside qm_name qm_readName qm_keptName qm_isKept qm_onces qm_snapMany qm_order qm_ordered qm_orderMany qm_orderMost qm_passing qm_movedWho qm_scratched qm_text qm_texts qm_seed qm_line qm_written qm_lineMany qm_hasWritten qm_node qm_nodes qm_onesMany qm_within qm_top qm_text_c (by omega) (by omega) (by omega)) mwX11_writeWord kw1671 [0, 1] [] rfl rfl rfl rfl (by decide) 0 rfl rfl rfl rfl hl.1 rfl (Nat.le_of_ble_eq_true rfl) ⟨(Nat.le_of_ble_eq_true rfl), (Nat.le_of_ble_eq_true rfl)⟩ ⟨(Nat.le_of_ble_eq_true rfl), (Nat.le_of_ble_eq_true rfl)⟩ dX11_writeWord_14 (fun  u9 H locs hp9 hw => ?_)
    obtain ⟨x11, x12, rfl, hf13, hf14⟩ := hp9
    have hw : Wd G s A [(qm, .inr (10, [.int qm_thrown, .ref qm_tape, .int qm_taped, .int qm_size, .int qm_limit, .int qm_to, .int qm_from, .int qm_kind, .int qm_number, .int qm_sign, .int qm_fault, .int qm_place, .long qm_word, .int qm_told, .ref qm_now, .ref qm_read, .ref qm_kept, .ref qm_snaps, .ref qm_aside, .ref qm_name, .ref qm_readName, .ref qm_keptName, .ref qm_isKept, .ref qm_onces, .int qm_snapMany, .ref qm_order, .ref qm_ordered, .int qm_orderMany, .int qm_orderMost, .int qm_passing, .int qm_movedWho, .int qm_scratched, .ref qm_text, .int x11, .int qm_seed, .ref qm_line, .ref qm_written, .int qm_lineMany, .int qm_hasWritten, .ref qm_node, .int qm_nodes, .int qm_onesMany, .int qm_within, .int qm_top])), (qm_text, eI G 64 x12)] H _ := hw
    refine lv_aload_n C.1 C.2.1 dX11_writeWord_17 rfl (lv_at hl 0 rfl) ?_
    refine lv_bipush (v := 96) C.1 C.2.1 dX11_writeWord_18 (by decide) ?_
    refine lv_lload_n C.1 C.2.1 dX11_writeWord_20 rfl (lv_at hl 1 rfl) ?_
    refine lv_ldc2 (v := 27) C.1 C.2.1 C.2.2.2.1 (C.2.2.2.2 _ kw1353) dX11_writeWord_21 ?_
    refine lv_lrem C.1 C.2.1 dX11_writeWord_24 (by decide) (x_genl (fun v15 => ?_))
    refine lv_l2i (v := v15.toInt32) C.1 C.2.1 dX11_writeWord_25 rfl (x_gen (fun v16 => ?_))
    refine lv_iadd C.1 C.2.1 dX11_writeWord_26 (x_gen (fun v17 => ?_))
    refine x_callvV (As := [.int v17]) (rest := []) (wr := []) C hw (s_X11_write qm v17 qm_thrown qm_tape qm_taped qm_size qm_limit qm_to qm_from qm_kind qm_number qm_sign qm_fault qm_place qm_word qm_told qm_now qm_read qm_kept qm_snaps qm_aside qm_name qm_readName qm_keptName qm_isKept qm_onces qm_snapMany qm_order qm_ordered qm_orderMany qm_orderMost qm_passing qm_movedWho qm_scratched qm_text x11 qm_seed qm_line qm_written qm_lineMany qm_hasWritten qm_node qm_nodes qm_onesMany qm_within qm_top x12 (by omega) (by omega)) mwX11_write kw1675 [0, 1] [] rfl rfl rfl rfl (by decide) 0 rfl rfl rfl rfl hl.1 rfl (Nat.le_of_ble_eq_true rfl) ⟨(Nat.le_of_ble_eq_true rfl), (Nat.le_of_ble_eq_true rfl)⟩ ⟨(Nat.le_of_ble_eq_true rfl), (Nat.le_of_ble_eq_true rfl)⟩ dX11_writeWord_27 (fun  u9 H locs hp9 hw => ?_)
    obtain ⟨x18, x19, rfl, hf20, hf21⟩ := hp9
    have hw : Wd G s A [(qm, .inr (10, [.int qm_thrown, .ref qm_tape, .int qm_taped, .int qm_size, .int qm_limit, .int qm_to, .int qm_from, .int qm_kind, .int qm_number, .int qm_sign, .int qm_fault, .int qm_place, .long qm_word, .int qm_told, .ref qm_now, .ref qm_read, .ref qm_kept, .ref qm_snaps, .ref qm_aside, .ref qm_name, .ref qm_readName, .ref qm_keptName, .ref qm_isKept, .ref qm_onces, .int qm_snapMany, .ref qm_order, .ref qm_ordered, .int qm_orderMany, .int qm_orderMost, .int qm_passing, .int qm_movedWho, .int qm_scratched, .ref qm_text, .int x18, .int qm_seed, .ref qm_line, .ref qm_written, .int qm_lineMany, .int qm_hasWritten, .ref qm_node, .int qm_nodes, .int qm_onesMany, .int qm_within, .int qm_top])), (qm_text, eI G 64 x19)] H _ := hw
    exact x_retvQ hQ B hw ⟨x18, x19, rfl, (by omega), (by omega)⟩ (Nat.le_of_ble_eq_true rfl) (Nat.le_of_ble_eq_true rfl) dX11_writeWord_30
theorem dX11_writeNext_0 : decode cX11_writeNext 0 = .ok (.aload_n 0, 1) := by decide +kernel
theorem dX11_writeNext_1 : decode cX11_writeNext 1 = .ok (.bipush 32, 2) := by decide +kernel
theorem dX11_writeNext_3 : decode cX11_writeNext 3 = .ok (.invokevirtual 340, 3) := by decide +kernel
theorem dX11_writeNext_6 : decode cX11_writeNext 6 = .ok (.aload_n 0, 1) := by decide +kernel
theorem dX11_writeNext_7 : decode cX11_writeNext 7 = .ok (.lload_n 1, 1) := by decide +kernel
theorem dX11_writeNext_8 : decode cX11_writeNext 8 = .ok (.invokevirtual 336, 3) := by decide +kernel
theorem dX11_writeNext_11 : decode cX11_writeNext 11 = .ok (.return_, 1) := by decide +kernel
set_option maxHeartbeats 4000000 in
set_option maxRecDepth 100000 in
theorem s_X11_writeNext_7 {l : Launch} {G : Gc} (qm : Nat) (a1 : Int64) (qm_thrown : Int32) (qm_tape : Nat) (qm_taped : Int32) (qm_size : Int32) (qm_limit : Int32) (qm_to : Int32) (qm_from : Int32) (qm_kind : Int32) (qm_number : Int32) (qm_sign : Int32) (qm_fault : Int32) (qm_place : Int32) (qm_word : Int64) (qm_told : Int32) (qm_now : Nat) (qm_read : Nat) (qm_kept : Nat) (qm_snaps : Nat) (qm_aside : Nat) (qm_name : Nat) (qm_readName : Nat) (qm_keptName : Nat) (qm_isKept : Nat) (qm_onces : Nat) (qm_snapMany : Int32) (qm_order : Nat) (qm_ordered : Nat) (qm_orderMany : Int32) (qm_orderMost : Int32) (qm_passing : Int32) (qm_movedWho : Int32) (qm_scratched : Int32) (qm_text : Nat) (qm_texts : Int32) (qm_seed : Int32) (qm_line : Nat) (qm_written : Nat) (qm_lineMany : Int32) (qm_hasWritten : Int32) (qm_node : Nat) (qm_nodes : Int32) (qm_onesMany : Int32) (qm_within : Int32) (qm_top : Int32) (qm_text_c : Nat → Int32) (hi_qm_texts : 0 ≤ qm_texts.toInt ∧ qm_texts.toInt ≤ 64) (hr_0 : a1.toInt < 10460353203) (hr_1 : qm_texts.toInt + 8 ≤ 64) : Cv l yX11_writeNext cX11_writeNext 3 8 0 0 G [.ref qm, .long a1] [(qm, .inr (10, [.int qm_thrown, .ref qm_tape, .int qm_taped, .int qm_size, .int qm_limit, .int qm_to, .int qm_from, .int qm_kind, .int qm_number, .int qm_sign, .int qm_fault, .int qm_place, .long qm_word, .int qm_told, .ref qm_now, .ref qm_read, .ref qm_kept, .ref qm_snaps, .ref qm_aside, .ref qm_name, .ref qm_readName, .ref qm_keptName, .ref qm_isKept, .ref qm_onces, .int qm_snapMany, .ref qm_order, .ref qm_ordered, .int qm_orderMany, .int qm_orderMost, .int qm_passing, .int qm_movedWho, .int qm_scratched, .ref qm_text, .int qm_texts, .int qm_seed, .ref qm_line, .ref qm_written, .int qm_lineMany, .int qm_hasWritten, .ref qm_node, .int qm_nodes, .int qm_onesMany, .int qm_within, .int qm_top])), (qm_text, eI G 64 qm_text_c)] (fun (u9 : va_W) => ∃ (x0_qm_texts : Int32) (x1_qm_text_c : Nat → Int32), u9 = [(qm, .inr (10, [.int qm_thrown, .ref qm_tape, .int qm_taped, .int qm_size, .int qm_limit, .int qm_to, .int qm_from, .int qm_kind, .int qm_number, .int qm_sign, .int qm_fault, .int qm_place, .long qm_word, .int qm_told, .ref qm_now, .ref qm_read, .ref qm_kept, .ref qm_snaps, .ref qm_aside, .ref qm_name, .ref qm_readName, .ref qm_keptName, .ref qm_isKept, .ref qm_onces, .int qm_snapMany, .ref qm_order, .ref qm_ordered, .int qm_orderMany, .int qm_orderMost, .int qm_passing, .int qm_movedWho, .int qm_scratched, .ref qm_text, .int x0_qm_texts, .int qm_seed, .ref qm_line, .ref qm_written, .int qm_lineMany, .int qm_hasWritten, .ref qm_node, .int qm_nodes, .int qm_onesMany, .int qm_within, .int qm_top])), (qm_text, eI G 64 x1_qm_text_c)] ∧ (1 ≤ x0_qm_texts.toInt ∧ x0_qm_texts.toInt ≤ 64) ∧ (qm_texts.toInt ≤ x0_qm_texts.toInt ∧ x0_qm_texts.toInt ≤ qm_texts.toInt + 8)) := by
  refine Cv.ofQ (by decide) (Nat.le_of_ble_eq_true rfl) ?_
  intro p e s m below meth c ls A args Q hQ B hw hl
  have C : CallFix p m c cX11_writeNext 3 s args gw "LanternStateModel" := B.1
  have hl : lv_has ls 3 [(0, .ref qm), (1, .long a1)] := hl
  refine lv_aload_n C.1 C.2.1 dX11_writeNext_0 rfl (lv_at hl 0 rfl) ?_
  refine lv_bipush (v := 32) C.1 C.2.1 dX11_writeNext_1 (by decide) ?_
  refine x_callvV (As := [.int 32]) (rest := []) (wr := []) C hw (s_X11_write qm 32 qm_thrown qm_tape qm_taped qm_size qm_limit qm_to qm_from qm_kind qm_number qm_sign qm_fault qm_place qm_word qm_told qm_now qm_read qm_kept qm_snaps qm_aside qm_name qm_readName qm_keptName qm_isKept qm_onces qm_snapMany qm_order qm_ordered qm_orderMany qm_orderMost qm_passing qm_movedWho qm_scratched qm_text qm_texts qm_seed qm_line qm_written qm_lineMany qm_hasWritten qm_node qm_nodes qm_onesMany qm_within qm_top qm_text_c (by omega) (by omega)) mwX11_write kw1675 [0, 1] [] rfl rfl rfl rfl (by decide) 0 rfl rfl rfl rfl hl.1 rfl (Nat.le_of_ble_eq_true rfl) ⟨(Nat.le_of_ble_eq_true rfl), (Nat.le_of_ble_eq_true rfl)⟩ ⟨(Nat.le_of_ble_eq_true rfl), (Nat.le_of_ble_eq_true rfl)⟩ dX11_writeNext_3 (fun  u9 H locs hp9 hw => ?_)
  obtain ⟨x1, x2, rfl, hf3, hf4⟩ := hp9
  have hw : Wd G s A [(qm, .inr (10, [.int qm_thrown, .ref qm_tape, .int qm_taped, .int qm_size, .int qm_limit, .int qm_to, .int qm_from, .int qm_kind, .int qm_number, .int qm_sign, .int qm_fault, .int qm_place, .long qm_word, .int qm_told, .ref qm_now, .ref qm_read, .ref qm_kept, .ref qm_snaps, .ref qm_aside, .ref qm_name, .ref qm_readName, .ref qm_keptName, .ref qm_isKept, .ref qm_onces, .int qm_snapMany, .ref qm_order, .ref qm_ordered, .int qm_orderMany, .int qm_orderMost, .int qm_passing, .int qm_movedWho, .int qm_scratched, .ref qm_text, .int x1, .int qm_seed, .ref qm_line, .ref qm_written, .int qm_lineMany, .int qm_hasWritten, .ref qm_node, .int qm_nodes, .int qm_onesMany, .int qm_within, .int qm_top])), (qm_text, eI G 64 x2)] H _ := hw
  refine lv_aload_n C.1 C.2.1 dX11_writeNext_6 rfl (lv_at hl 0 rfl) ?_
  refine lv_lload_n C.1 C.2.1 dX11_writeNext_7 rfl (lv_at hl 1 rfl) ?_
  refine x_callvV (As := [.long a1]) (rest := []) (wr := []) C hw (s_X11_writeWord_7 qm a1 qm_thrown qm_tape qm_taped qm_size qm_limit qm_to qm_from qm_kind qm_number qm_sign qm_fault qm_place qm_word qm_told qm_now qm_read qm_kept qm_snaps qm_aside qm_name qm_readName qm_keptName qm_isKept qm_onces qm_snapMany qm_order qm_ordered qm_orderMany qm_orderMost qm_passing qm_movedWho qm_scratched qm_text x1 qm_seed qm_line qm_written qm_lineMany qm_hasWritten qm_node qm_nodes qm_onesMany qm_within qm_top x2 (by omega) (by omega) (by omega)) mwX11_writeWord kw1671 [0, 1] [] rfl rfl rfl rfl (by decide) 0 rfl rfl rfl rfl hl.1 rfl (Nat.le_of_ble_eq_true rfl) ⟨(Nat.le_of_ble_eq_true rfl), (Nat.le_of_ble_eq_true rfl)⟩ ⟨(Nat.le_of_ble_eq_true rfl), (Nat.le_of_ble_eq_true rfl)⟩ dX11_writeNext_8 (fun  u9 H locs hp9 hw => ?_)
  obtain ⟨x5, x6, rfl, hf7, hf8⟩ := hp9
  have hw : Wd G s A [(qm, .inr (10, [.int qm_thrown, .ref qm_tape, .int qm_taped, .int qm_size, .int qm_limit, .int qm_to, .int qm_from, .int qm_kind, .int qm_number, .int qm_sign, .int qm_fault, .int qm_place, .long qm_word, .int qm_told, .ref qm_now, .ref qm_read, .ref qm_kept, .ref qm_snaps, .ref qm_aside, .ref qm_name, .ref qm_readName, .ref qm_keptName, .ref qm_isKept, .ref qm_onces, .int qm_snapMany, .ref qm_order, .ref qm_ordered, .int qm_orderMany, .int qm_orderMost, .int qm_passing, .int qm_movedWho, .int qm_scratched, .ref qm_text, .int x5, .int qm_seed, .ref qm_line, .ref qm_written, .int qm_lineMany, .int qm_hasWritten, .ref qm_node, .int qm_nodes, .int qm_onesMany, .int qm_within, .int qm_top])), (qm_text, eI G 64 x6)] H _ := hw
  exact x_retvQ hQ B hw ⟨x5, x6, rfl, (by omega), (by omega)⟩ (Nat.le_of_ble_eq_true rfl) (Nat.le_of_ble_eq_true rfl) dX11_writeNext_11
set_option maxHeartbeats 4000000 in
set_option maxRecDepth 100000 in
theorem s_X11_writeNext_14 {l : Launch} {G : Gc} (qm : Nat) (a1 : Int64) (qm_thrown : Int32) (qm_tape : Nat) (qm_taped : Int32) (qm_size : Int32) (qm_limit : Int32) (qm_to : Int32) (qm_from : Int32) (qm_kind : Int32) (qm_number : Int32) (qm_sign : Int32) (qm_fault : Int32) (qm_place : Int32) (qm_word : Int64) (qm_told : Int32) (qm_now : Nat) (qm_read : Nat) (qm_kept : Nat) (qm_snaps : Nat) (qm_aside : Nat) (qm_name : Nat) (qm_readName : Nat) (qm_keptName : Nat) (qm_isKept : Nat) (qm_onces : Nat) (qm_snapMany : Int32) (qm_order : Nat) (qm_ordered : Nat) (qm_orderMany : Int32) (qm_orderMost : Int32) (qm_passing : Int32) (qm_movedWho : Int32) (qm_scratched : Int32) (qm_text : Nat) (qm_texts : Int32) (qm_seed : Int32) (qm_line : Nat) (qm_written : Nat) (qm_lineMany : Int32) (qm_hasWritten : Int32) (qm_node : Nat) (qm_nodes : Int32) (qm_onesMany : Int32) (qm_within : Int32) (qm_top : Int32) (qm_text_c : Nat → Int32) (hi_qm_texts : 0 ≤ qm_texts.toInt ∧ qm_texts.toInt ≤ 64) (hr_0 : a1.toInt < 109418989131512359209) (hr_1 : qm_texts.toInt + 15 ≤ 64) : Cv l yX11_writeNext cX11_writeNext 3 15 0 0 G [.ref qm, .long a1] [(qm, .inr (10, [.int qm_thrown, .ref qm_tape, .int qm_taped, .int qm_size, .int qm_limit, .int qm_to, .int qm_from, .int qm_kind, .int qm_number, .int qm_sign, .int qm_fault, .int qm_place, .long qm_word, .int qm_told, .ref qm_now, .ref qm_read, .ref qm_kept, .ref qm_snaps, .ref qm_aside, .ref qm_name, .ref qm_readName, .ref qm_keptName, .ref qm_isKept, .ref qm_onces, .int qm_snapMany, .ref qm_order, .ref qm_ordered, .int qm_orderMany, .int qm_orderMost, .int qm_passing, .int qm_movedWho, .int qm_scratched, .ref qm_text, .int qm_texts, .int qm_seed, .ref qm_line, .ref qm_written, .int qm_lineMany, .int qm_hasWritten, .ref qm_node, .int qm_nodes, .int qm_onesMany, .int qm_within, .int qm_top])), (qm_text, eI G 64 qm_text_c)] (fun (u9 : va_W) => ∃ (x0_qm_texts : Int32) (x1_qm_text_c : Nat → Int32), u9 = [(qm, .inr (10, [.int qm_thrown, .ref qm_tape, .int qm_taped, .int qm_size, .int qm_limit, .int qm_to, .int qm_from, .int qm_kind, .int qm_number, .int qm_sign, .int qm_fault, .int qm_place, .long qm_word, .int qm_told, .ref qm_now, .ref qm_read, .ref qm_kept, .ref qm_snaps, .ref qm_aside, .ref qm_name, .ref qm_readName, .ref qm_keptName, .ref qm_isKept, .ref qm_onces, .int qm_snapMany, .ref qm_order, .ref qm_ordered, .int qm_orderMany, .int qm_orderMost, .int qm_passing, .int qm_movedWho, .int qm_scratched, .ref qm_text, .int x0_qm_texts, .int qm_seed, .ref qm_line, .ref qm_written, .int qm_lineMany, .int qm_hasWritten, .ref qm_node, .int qm_nodes, .int qm_onesMany, .int qm_within, .int qm_top])), (qm_text, eI G 64 x1_qm_text_c)] ∧ (1 ≤ x0_qm_texts.toInt ∧ x0_qm_texts.toInt ≤ 64) ∧ (qm_texts.toInt ≤ x0_qm_texts.toInt ∧ x0_qm_texts.toInt ≤ qm_texts.toInt + 15)) := by
  refine Cv.ofQ (by decide) (Nat.le_of_ble_eq_true rfl) ?_
  intro p e s m below meth c ls A args Q hQ B hw hl
  have C : CallFix p m c cX11_writeNext 3 s args gw "LanternStateModel" := B.1
  have hl : lv_has ls 3 [(0, .ref qm), (1, .long a1)] := hl
  refine lv_aload_n C.1 C.2.1 dX11_writeNext_0 rfl (lv_at hl 0 rfl) ?_
  refine lv_bipush (v := 32) C.1 C.2.1 dX11_writeNext_1 (by decide) ?_
  refine x_callvV (As := [.int 32]) (rest := []) (wr := []) C hw (s_X11_write qm 32 qm_thrown qm_tape qm_taped qm_size qm_limit qm_to qm_from qm_kind qm_number qm_sign qm_fault qm_place qm_word qm_told qm_now qm_read qm_kept qm_snaps qm_aside qm_name qm_readName qm_keptName qm_isKept qm_onces qm_snapMany qm_order qm_ordered qm_orderMany qm_orderMost qm_passing qm_movedWho qm_scratched qm_text qm_texts qm_seed qm_line qm_written qm_lineMany qm_hasWritten qm_node qm_nodes qm_onesMany qm_within qm_top qm_text_c (by omega) (by omega)) mwX11_write kw1675 [0, 1] [] rfl rfl rfl rfl (by decide) 0 rfl rfl rfl rfl hl.1 rfl (Nat.le_of_ble_eq_true rfl) ⟨(Nat.le_of_ble_eq_true rfl), (Nat.le_of_ble_eq_true rfl)⟩ ⟨(Nat.le_of_ble_eq_true rfl), (Nat.le_of_ble_eq_true rfl)⟩ dX11_writeNext_3 (fun  u9 H locs hp9 hw => ?_)
  obtain ⟨x1, x2, rfl, hf3, hf4⟩ := hp9
  have hw : Wd G s A [(qm, .inr (10, [.int qm_thrown, .ref qm_tape, .int qm_taped, .int qm_size, .int qm_limit, .int qm_to, .int qm_from, .int qm_kind, .int qm_number, .int qm_sign, .int qm_fault, .int qm_place, .long qm_word, .int qm_told, .ref qm_now, .ref qm_read, .ref qm_kept, .ref qm_snaps, .ref qm_aside, .ref qm_name, .ref qm_readName, .ref qm_keptName, .ref qm_isKept, .ref qm_onces, .int qm_snapMany, .ref qm_order, .ref qm_ordered, .int qm_orderMany, .int qm_orderMost, .int qm_passing, .int qm_movedWho, .int qm_scratched, .ref qm_text, .int x1, .int qm_seed, .ref qm_line, .ref qm_written, .int qm_lineMany, .int qm_hasWritten, .ref qm_node, .int qm_nodes, .int qm_onesMany, .int qm_within, .int qm_top])), (qm_text, eI G 64 x2)] H _ := hw
  refine lv_aload_n C.1 C.2.1 dX11_writeNext_6 rfl (lv_at hl 0 rfl) ?_
  refine lv_lload_n C.1 C.2.1 dX11_writeNext_7 rfl (lv_at hl 1 rfl) ?_
  refine x_callvV (As := [.long a1]) (rest := []) (wr := []) C hw (s_X11_writeWord_14 qm a1 qm_thrown qm_tape qm_taped qm_size qm_limit qm_to qm_from qm_kind qm_number qm_sign qm_fault qm_place qm_word qm_told qm_now qm_read qm_kept qm_snaps qm_aside qm_name qm_readName qm_keptName qm_isKept qm_onces qm_snapMany qm_order qm_ordered qm_orderMany qm_orderMost qm_passing qm_movedWho qm_scratched qm_text x1 qm_seed qm_line qm_written qm_lineMany qm_hasWritten qm_node qm_nodes qm_onesMany qm_within qm_top x2 (by omega) (by omega) (by omega)) mwX11_writeWord kw1671 [0, 1] [] rfl rfl rfl rfl (by decide) 0 rfl rfl rfl rfl hl.1 rfl (Nat.le_of_ble_eq_true rfl) ⟨(Nat.le_of_ble_eq_true rfl), (Nat.le_of_ble_eq_true rfl)⟩ ⟨(Nat.le_of_ble_eq_true rfl), (Nat.le_of_ble_eq_true rfl)⟩ dX11_writeNext_8 (fun  u9 H locs hp9 hw => ?_)
  obtain ⟨x5, x6, rfl, hf7, hf8⟩ := hp9
  have hw : Wd G s A [(qm, .inr (10, [.int qm_thrown, .ref qm_tape, .int qm_taped, .int qm_size, .int qm_limit, .int qm_to, .int qm_from, .int qm_kind, .int qm_number, .int qm_sign, .int qm_fault, .int qm_place, .long qm_word, .int qm_told, .ref qm_now, .ref qm_read, .ref qm_kept, .ref qm_snaps, .ref qm_aside, .ref qm_name, .ref qm_readName, .ref qm_keptName, .ref qm_isKept, .ref qm_onces, .int qm_snapMany, .ref qm_order, .ref qm_ordered, .int qm_orderMany, .int qm_orderMost, .int qm_passing, .int qm_movedWho, .int qm_scratched, .ref qm_text, .int x5, .int qm_seed, .ref qm_line, .ref qm_written, .int qm_lineMany, .int qm_hasWritten, .ref qm_node, .int qm_nodes, .int qm_onesMany, .int qm_within, .int qm_top])), (qm_text, eI G 64 x6)] H _ := hw
  exact x_retvQ hQ B hw ⟨x5, x6, rfl, (by omega), (by omega)⟩ (Nat.le_of_ble_eq_true rfl) (Nat.le_of_ble_eq_true rfl) dX11_writeNext_11
set_option maxHeartbeats 4000000 in
set_option maxRecDepth 100000 in
theorem s_X11_waitsB {l : Launch} {G : Gc} (qm : Nat) (a1 : Int32) (qm_thrown : Int32) (qm_tape : Nat) (qm_taped : Int32) (qm_size : Int32) (qm_limit : Int32) (qm_to : Int32) (qm_from : Int32) (qm_kind : Int32) (qm_number : Int32) (qm_sign : Int32) (qm_fault : Int32) (qm_place : Int32) (qm_word : Int64) (qm_told : Int32) (qm_now : Nat) (qm_read : Nat) (qm_kept : Nat) (qm_snaps : Nat) (qm_aside : Nat) (qm_name : Nat) (qm_readName : Nat) (qm_keptName : Nat) (qm_isKept : Nat) (qm_onces : Nat) (qm_snapMany : Int32) (qm_order : Nat) (qm_ordered : Nat) (qm_orderMany : Int32) (qm_orderMost : Int32) (qm_passing : Int32) (qm_movedWho : Int32) (qm_scratched : Int32) (qm_text : Nat) (qm_texts : Int32) (qm_seed : Int32) (qm_line : Nat) (qm_written : Nat) (qm_lineMany : Int32) (qm_hasWritten : Int32) (qm_node : Nat) (qm_nodes : Int32) (qm_onesMany : Int32) (qm_within : Int32) (qm_top : Int32) (qm_now_c : Nat → Int32) (hi_a1 : 0 ≤ a1.toInt ∧ a1.toInt ≤ 5) (hf_qm_now_c : slI qm_now_c) (hf1_qm_now_c : trI qm_now_c) : Ci l yX11_waits cX11_waits 2 (some .boolean) 2 0 0 G [.ref qm, .int a1] [(qm, .inr (10, [.int qm_thrown, .ref qm_tape, .int qm_taped, .int qm_size, .int qm_limit, .int qm_to, .int qm_from, .int qm_kind, .int qm_number, .int qm_sign, .int qm_fault, .int qm_place, .long qm_word, .int qm_told, .ref qm_now, .ref qm_read, .ref qm_kept, .ref qm_snaps, .ref qm_aside, .ref qm_name, .ref qm_readName, .ref qm_keptName, .ref qm_isKept, .ref qm_onces, .int qm_snapMany, .ref qm_order, .ref qm_ordered, .int qm_orderMany, .int qm_orderMost, .int qm_passing, .int qm_movedWho, .int qm_scratched, .ref qm_text, .int qm_texts, .int qm_seed, .ref qm_line, .ref qm_written, .int qm_lineMany, .int qm_hasWritten, .ref qm_node, .int qm_nodes, .int qm_onesMany, .int qm_within, .int qm_top])), (qm_now, eI G 339 qm_now_c)] (fun (r9 : Int32) (u9 : va_W) => (r9 = 0 ∧ u9 = [(qm, .inr (10, [.int qm_thrown, .ref qm_tape, .int qm_taped, .int qm_size, .int qm_limit, .int qm_to, .int qm_from, .int qm_kind, .int qm_number, .int qm_sign, .int qm_fault, .int qm_place, .long qm_word, .int qm_told, .ref qm_now, .ref qm_read, .ref qm_kept, .ref qm_snaps, .ref qm_aside, .ref qm_name, .ref qm_readName, .ref qm_keptName, .ref qm_isKept, .ref qm_onces, .int qm_snapMany, .ref qm_order, .ref qm_ordered, .int qm_orderMany, .int qm_orderMost, .int qm_passing, .int qm_movedWho, .int qm_scratched, .ref qm_text, .int qm_texts, .int qm_seed, .ref qm_line, .ref qm_written, .int qm_lineMany, .int qm_hasWritten, .ref qm_node, .int qm_nodes, .int qm_onesMany, .int qm_within, .int qm_top])), (qm_now, eI G 339 qm_now_c)]) ∨ (r9 = 1 ∧ u9 = [(qm, .inr (10, [.int qm_thrown, .ref qm_tape, .int qm_taped, .int qm_size, .int qm_limit, .int qm_to, .int qm_from, .int qm_kind, .int qm_number, .int qm_sign, .int qm_fault, .int qm_place, .long qm_word, .int qm_told, .ref qm_now, .ref qm_read, .ref qm_kept, .ref qm_snaps, .ref qm_aside, .ref qm_name, .ref qm_readName, .ref qm_keptName, .ref qm_isKept, .ref qm_onces, .int qm_snapMany, .ref qm_order, .ref qm_ordered, .int qm_orderMany, .int qm_orderMost, .int qm_passing, .int qm_movedWho, .int qm_scratched, .ref qm_text, .int qm_texts, .int qm_seed, .ref qm_line, .ref qm_written, .int qm_lineMany, .int qm_hasWritten, .ref qm_node, .int qm_nodes, .int qm_onesMany, .int qm_within, .int qm_top])), (qm_now, eI G 339 qm_now_c)] ∧ ((qm_now_c (18 + a1.toInt).toNat).toInt ≠ -1))) := by
  refine Ci.ofQ (by decide) (Nat.le_of_ble_eq_true rfl) ?_
  intro p e s m below meth c ls A args Q hQ B hw hl
  have C : CallFix p m c cX11_waits 2 s args gw "LanternStateModel" := B.1
  have hl : lv_has ls 2 [(0, .ref qm), (1, .int a1)] := hl
  refine lv_aload_n C.1 C.2.1 dX11_waits_0 rfl (lv_at hl 0 rfl) ?_
  refine x_get C hw iwX11 10 rfl 0 rfl 14 (by decide) kw1207 rfl dX11_waits_1 ?_
  refine lv_bipush (v := 18) C.1 C.2.1 dX11_waits_4 (by decide) ?_
  refine lv_iload_n C.1 C.2.1 dX11_waits_6 rfl (lv_at hl 1 rfl) ?_
  refine lv_iadd C.1 C.2.1 dX11_waits_7 (x_genP (fun z : Int32 => z.toInt = 18 + a1.toInt) (i_add (X := 18) (Y := a1.toInt) rfl rfl (by omega) (by omega)) (fun v1 hv1 => ?_))
  refine x_iald (v := (qm_now_c v1.toNatClampNeg)) C hw 1 rfl (i_in (by omega) (by omega)) rfl dX11_waits_8 (x_genP (fun z : Int32 => z.toInt = (qm_now_c (18 + a1.toInt).toNat).toInt) (by rw [i_cn, hv1]) (fun v2 hv2 => ?_))
  refine lv_iconst (v := (-1)) C.1 C.2.1 dX11_waits_9 (by decide) ?_
  refine lv_icmp_eq (tgt := 33) C.1 C.2.1 dX11_waits_10 (by decide) (fun c3 => ?_) (fun c3 => ?_)
  · skip
    have c3 : v2.toInt = (-1) := i_eqT (X := v2.toInt) (Y := (-1)) rfl rfl c3
    have bc3_v2 := i_bd v2
    refine lv_iconst (v := 0) C.1 C.2.1 dX11_waits_33 (by decide) ?_
    exact x_retzQ hQ B hw rfl (Or.inl ⟨rfl, rfl⟩) (Nat.le_of_ble_eq_true rfl) (Nat.le_of_ble_eq_true rfl) dX11_waits_34
  · skip
    have c3 : v2.toInt ≠ (-1) := i_eqF (X := v2.toInt) (Y := (-1)) rfl rfl c3
    have bc3_v2 := i_bd v2
    refine lv_aload_n C.1 C.2.1 dX11_waits_13 rfl (lv_at hl 0 rfl) ?_
    refine lv_aload_n C.1 C.2.1 dX11_waits_14 rfl (lv_at hl 0 rfl) ?_
    refine x_get C hw iwX11 10 rfl 0 rfl 14 (by decide) kw1207 rfl dX11_waits_15 ?_
    refine lv_bipush (v := 18) C.1 C.2.1 dX11_waits_18 (by decide) ?_
    refine lv_iload_n C.1 C.2.1 dX11_waits_20 rfl (lv_at hl 1 rfl) ?_
    refine lv_iadd C.1 C.2.1 dX11_waits_21 (x_genP (fun z : Int32 => z.toInt = 18 + a1.toInt) (i_add (X := 18) (Y := a1.toInt) rfl rfl (by omega) (by omega)) (fun v4 hv4 => ?_))
    have mm5 := hf_qm_now_c v4.toNatClampNeg
    have mm6 := i_cn v4
    refine x_iald (v := (qm_now_c v4.toNatClampNeg)) C hw 1 rfl (i_in (by omega) (by omega)) rfl dX11_waits_22 (x_genP (fun z : Int32 => z.toInt = (qm_now_c v4.toNatClampNeg).toInt ∧ -1 ≤ z.toInt ∧ z.toInt ≤ 5) ⟨rfl, by omega⟩ (fun v7 hv7 => ?_))
    refine x_calliV (As := [.int v7]) (rest := []) (wr := []) C hw (s_X11_isSo qm v7 qm_thrown qm_tape qm_taped qm_size qm_limit qm_to qm_from qm_kind qm_number qm_sign qm_fault qm_place qm_word qm_told qm_now qm_read qm_kept qm_snaps qm_aside qm_name qm_readName qm_keptName qm_isKept qm_onces qm_snapMany qm_order qm_ordered qm_orderMany qm_orderMost qm_passing qm_movedWho qm_scratched qm_text qm_texts qm_seed qm_line qm_written qm_lineMany qm_hasWritten qm_node qm_nodes qm_onesMany qm_within qm_top qm_now_c hf_qm_now_c hf1_qm_now_c) mwX11_isSo kw1476 [0, 1] [] rfl rfl rfl rfl (by decide) 0 rfl rfl rfl rfl hl.1 rfl (Nat.le_of_ble_eq_true rfl) ⟨(Nat.le_of_ble_eq_true rfl), (Nat.le_of_ble_eq_true rfl)⟩ ⟨(Nat.le_of_ble_eq_true rfl), (Nat.le_of_ble_eq_true rfl)⟩ dX11_waits_23 (fun r8 u9 H locs hp9 hw => ?_)
    rcases hp9 with ⟨rfl, rfl⟩ | ⟨rfl, rfl⟩
    · skip
      have hw : Wd G s A [(qm, .inr (10, [.int qm_thrown, .ref qm_tape, .int qm_taped, .int qm_size, .int qm_limit, .int qm_to, .int qm_from, .int qm_kind, .int qm_number, .int qm_sign, .int qm_fault, .int qm_place, .long qm_word, .int qm_told, .ref qm_now, .ref qm_read, .ref qm_kept, .ref qm_snaps, .ref qm_aside, .ref qm_name, .ref qm_readName, .ref qm_keptName, .ref qm_isKept, .ref qm_onces, .int qm_snapMany, .ref qm_order, .ref qm_ordered, .int qm_orderMany, .int qm_orderMost, .int qm_passing, .int qm_movedWho, .int qm_scratched, .ref qm_text, .int qm_texts, .int qm_seed, .ref qm_line, .ref qm_written, .int qm_lineMany, .int qm_hasWritten, .ref qm_node, .int qm_nodes, .int qm_onesMany, .int qm_within, .int qm_top])), (qm_now, eI G 339 qm_now_c)] H _ := hw
      refine lv_if_ne (tgt := 33) C.1 C.2.1 dX11_waits_26 (by decide) (fun h9 => absurd (by decide) h9) (fun _ => ?_)
      refine lv_iconst (v := 1) C.1 C.2.1 dX11_waits_29 (by decide) ?_
      refine lv_goto (tgt := 34) C.1 C.2.1 dX11_waits_30 (by decide) ?_
      exact x_retzQ hQ B hw rfl (Or.inr ⟨rfl, rfl, (by omega)⟩) (Nat.le_of_ble_eq_true rfl) (Nat.le_of_ble_eq_true rfl) dX11_waits_34
    · skip
      have hw : Wd G s A [(qm, .inr (10, [.int qm_thrown, .ref qm_tape, .int qm_taped, .int qm_size, .int qm_limit, .int qm_to, .int qm_from, .int qm_kind, .int qm_number, .int qm_sign, .int qm_fault, .int qm_place, .long qm_word, .int qm_told, .ref qm_now, .ref qm_read, .ref qm_kept, .ref qm_snaps, .ref qm_aside, .ref qm_name, .ref qm_readName, .ref qm_keptName, .ref qm_isKept, .ref qm_onces, .int qm_snapMany, .ref qm_order, .ref qm_ordered, .int qm_orderMany, .int qm_orderMost, .int qm_passing, .int qm_movedWho, .int qm_scratched, .ref qm_text, .int qm_texts, .int qm_seed, .ref qm_line, .ref qm_written, .int qm_lineMany, .int qm_hasWritten, .ref qm_node, .int qm_nodes, .int qm_onesMany, .int qm_within, .int qm_top])), (qm_now, eI G 339 qm_now_c)] H _ := hw
      refine lv_if_ne (tgt := 33) C.1 C.2.1 dX11_waits_26 (by decide) (fun _ => ?_) (fun h9 => absurd h9 (by decide))
      refine lv_iconst (v := 0) C.1 C.2.1 dX11_waits_33 (by decide) ?_
      exact x_retzQ hQ B hw rfl (Or.inl ⟨rfl, rfl⟩) (Nat.le_of_ble_eq_true rfl) (Nat.le_of_ble_eq_true rfl) dX11_waits_34
theorem dX11_bill_0 : decode cX11_bill 0 = .ok (.aload_n 0, 1) := by decide +kernel
theorem dX11_bill_1 : decode cX11_bill 1 = .ok (.iconst 0, 1) := by decide +kernel
theorem dX11_bill_2 : decode cX11_bill 2 = .ok (.putfield 1, 3) := by decide +kernel
theorem dX11_bill_5 : decode cX11_bill 5 = .ok (.aload_n 0, 1) := by decide +kernel
theorem dX11_bill_6 : decode cX11_bill 6 = .ok (.iload_n 1, 1) := by decide +kernel
theorem dX11_bill_7 : decode cX11_bill 7 = .ok (.invokevirtual 237, 3) := by decide +kernel
theorem dX11_bill_10 : decode cX11_bill 10 = .ok (.ifCond .ne 5, 3) := by decide +kernel
theorem dX11_bill_13 : decode cX11_bill 13 = .ok (.iconst (-1), 1) := by decide +kernel
theorem dX11_bill_14 : decode cX11_bill 14 = .ok (.ireturn, 1) := by decide +kernel
theorem dX11_bill_15 : decode cX11_bill 15 = .ok (.aload_n 0, 1) := by decide +kernel
theorem dX11_bill_16 : decode cX11_bill 16 = .ok (.iconst 0, 1) := by decide +kernel
theorem dX11_bill_17 : decode cX11_bill 17 = .ok (.putfield 333, 3) := by decide +kernel
theorem dX11_bill_20 : decode cX11_bill 20 = .ok (.aload_n 0, 1) := by decide +kernel
theorem dX11_bill_21 : decode cX11_bill 21 = .ok (.aload_n 0, 1) := by decide +kernel
theorem dX11_bill_22 : decode cX11_bill 22 = .ok (.getfield 113, 3) := by decide +kernel
theorem dX11_bill_25 : decode cX11_bill 25 = .ok (.iload_n 1, 1) := by decide +kernel
theorem dX11_bill_26 : decode cX11_bill 26 = .ok (.laload, 1) := by decide +kernel
theorem dX11_bill_27 : decode cX11_bill 27 = .ok (.invokevirtual 336, 3) := by decide +kernel
theorem dX11_bill_30 : decode cX11_bill 30 = .ok (.aload_n 0, 1) := by decide +kernel
theorem dX11_bill_31 : decode cX11_bill 31 = .ok (.bipush 105, 2) := by decide +kernel
theorem dX11_bill_33 : decode cX11_bill 33 = .ok (.bipush 115, 2) := by decide +kernel
theorem dX11_bill_35 : decode cX11_bill 35 = .ok (.iconst 0, 1) := by decide +kernel
theorem dX11_bill_36 : decode cX11_bill 36 = .ok (.iconst 0, 1) := by decide +kernel
theorem dX11_bill_37 : decode cX11_bill 37 = .ok (.iconst 0, 1) := by decide +kernel
theorem dX11_bill_38 : decode cX11_bill 38 = .ok (.iconst 0, 1) := by decide +kernel
theorem dX11_bill_39 : decode cX11_bill 39 = .ok (.iconst 0, 1) := by decide +kernel
theorem dX11_bill_40 : decode cX11_bill 40 = .ok (.invokestatic 58, 3) := by decide +kernel
theorem dX11_bill_43 : decode cX11_bill 43 = .ok (.invokevirtual 343, 3) := by decide +kernel
theorem mwX11_writeNext : MwV yX11_writeNext cX11_writeNext 3 none 1 := ⟨⟨kw1682, kw15, by decide +kernel⟩, kw1681, kS94⟩
theorem dX11_bill_46 : decode cX11_bill 46 = .ok (.aload_n 0, 1) := by decide +kernel
theorem dX11_bill_47 : decode cX11_bill 47 = .ok (.iload_n 1, 1) := by decide +kernel
theorem dX11_bill_48 : decode cX11_bill 48 = .ok (.invokevirtual 246, 3) := by decide +kernel
theorem dX11_bill_51 : decode cX11_bill 51 = .ok (.ifCond .eq 17, 3) := by decide +kernel
theorem dX11_bill_68 : decode cX11_bill 68 = .ok (.aload_n 0, 1) := by decide +kernel
theorem dX11_bill_69 : decode cX11_bill 69 = .ok (.iload_n 1, 1) := by decide +kernel
theorem dX11_bill_70 : decode cX11_bill 70 = .ok (.invokevirtual 249, 3) := by decide +kernel
theorem dX11_bill_73 : decode cX11_bill 73 = .ok (.ifCond .eq 17, 3) := by decide +kernel
theorem dX11_bill_90 : decode cX11_bill 90 = .ok (.aload_n 0, 1) := by decide +kernel
theorem dX11_bill_91 : decode cX11_bill 91 = .ok (.bipush 18, 2) := by decide +kernel
theorem dX11_bill_93 : decode cX11_bill 93 = .ok (.invokestatic 62, 3) := by decide +kernel
theorem dX11_bill_96 : decode cX11_bill 96 = .ok (.invokevirtual 343, 3) := by decide +kernel
theorem dX11_bill_99 : decode cX11_bill 99 = .ok (.aload_n 0, 1) := by decide +kernel
theorem dX11_bill_100 : decode cX11_bill 100 = .ok (.bipush 19, 2) := by decide +kernel
theorem dX11_bill_102 : decode cX11_bill 102 = .ok (.invokestatic 62, 3) := by decide +kernel
theorem dX11_bill_105 : decode cX11_bill 105 = .ok (.invokevirtual 343, 3) := by decide +kernel
theorem dX11_bill_108 : decode cX11_bill 108 = .ok (.aload_n 0, 1) := by decide +kernel
theorem dX11_bill_109 : decode cX11_bill 109 = .ok (.iload_n 1, 1) := by decide +kernel
theorem dX11_bill_110 : decode cX11_bill 110 = .ok (.invokevirtual 279, 3) := by decide +kernel
theorem dX11_bill_113 : decode cX11_bill 113 = .ok (.ifCond .ne 8, 3) := by decide +kernel
theorem dX11_bill_116 : decode cX11_bill 116 = .ok (.aload_n 0, 1) := by decide +kernel
theorem dX11_bill_117 : decode cX11_bill 117 = .ok (.getfield 333, 3) := by decide +kernel
theorem dX11_bill_120 : decode cX11_bill 120 = .ok (.ireturn, 1) := by decide +kernel
theorem dX11_bill_121 : decode cX11_bill 121 = .ok (.aload_n 0, 1) := by decide +kernel
theorem dX11_bill_122 : decode cX11_bill 122 = .ok (.bipush 102, 2) := by decide +kernel
theorem dX11_bill_124 : decode cX11_bill 124 = .ok (.bipush 111, 2) := by decide +kernel
theorem dX11_bill_126 : decode cX11_bill 126 = .ok (.bipush 114, 2) := by decide +kernel
theorem dX11_bill_128 : decode cX11_bill 128 = .ok (.iconst 0, 1) := by decide +kernel
theorem dX11_bill_129 : decode cX11_bill 129 = .ok (.iconst 0, 1) := by decide +kernel
theorem dX11_bill_130 : decode cX11_bill 130 = .ok (.iconst 0, 1) := by decide +kernel
theorem dX11_bill_131 : decode cX11_bill 131 = .ok (.iconst 0, 1) := by decide +kernel
theorem dX11_bill_132 : decode cX11_bill 132 = .ok (.invokestatic 58, 3) := by decide +kernel
theorem dX11_bill_135 : decode cX11_bill 135 = .ok (.invokevirtual 343, 3) := by decide +kernel
theorem dX11_bill_138 : decode cX11_bill 138 = .ok (.aload_n 0, 1) := by decide +kernel
theorem dX11_bill_139 : decode cX11_bill 139 = .ok (.aload_n 0, 1) := by decide +kernel
theorem dX11_bill_140 : decode cX11_bill 140 = .ok (.getfield 113, 3) := by decide +kernel
theorem dX11_bill_143 : decode cX11_bill 143 = .ok (.aload_n 0, 1) := by decide +kernel
theorem dX11_bill_144 : decode cX11_bill 144 = .ok (.getfield 98, 3) := by decide +kernel
theorem dX11_bill_147 : decode cX11_bill 147 = .ok (.bipush 18, 2) := by decide +kernel
theorem dX11_bill_149 : decode cX11_bill 149 = .ok (.iload_n 1, 1) := by decide +kernel
theorem dX11_bill_150 : decode cX11_bill 150 = .ok (.iadd, 1) := by decide +kernel
theorem dX11_bill_151 : decode cX11_bill 151 = .ok (.iaload, 1) := by decide +kernel
theorem dX11_bill_152 : decode cX11_bill 152 = .ok (.laload, 1) := by decide +kernel
theorem dX11_bill_153 : decode cX11_bill 153 = .ok (.invokevirtual 343, 3) := by decide +kernel
theorem dX11_bill_156 : decode cX11_bill 156 = .ok (.aload_n 0, 1) := by decide +kernel
theorem dX11_bill_157 : decode cX11_bill 157 = .ok (.getfield 333, 3) := by decide +kernel
theorem dX11_bill_160 : decode cX11_bill 160 = .ok (.ireturn, 1) := by decide +kernel
theorem dX11_bill_76 : decode cX11_bill 76 = .ok (.aload_n 0, 1) := by decide +kernel
theorem dX11_bill_77 : decode cX11_bill 77 = .ok (.bipush 20, 2) := by decide +kernel
theorem dX11_bill_79 : decode cX11_bill 79 = .ok (.invokestatic 62, 3) := by decide +kernel
theorem dX11_bill_82 : decode cX11_bill 82 = .ok (.invokevirtual 343, 3) := by decide +kernel
theorem dX11_bill_85 : decode cX11_bill 85 = .ok (.aload_n 0, 1) := by decide +kernel
theorem dX11_bill_86 : decode cX11_bill 86 = .ok (.getfield 333, 3) := by decide +kernel
theorem dX11_bill_89 : decode cX11_bill 89 = .ok (.ireturn, 1) := by decide +kernel
theorem dX11_bill_54 : decode cX11_bill 54 = .ok (.aload_n 0, 1) := by decide +kernel
theorem dX11_bill_55 : decode cX11_bill 55 = .ok (.bipush 19, 2) := by decide +kernel
theorem dX11_bill_57 : decode cX11_bill 57 = .ok (.invokestatic 62, 3) := by decide +kernel
theorem dX11_bill_60 : decode cX11_bill 60 = .ok (.invokevirtual 343, 3) := by decide +kernel
theorem dX11_bill_63 : decode cX11_bill 63 = .ok (.aload_n 0, 1) := by decide +kernel
theorem dX11_bill_64 : decode cX11_bill 64 = .ok (.getfield 333, 3) := by decide +kernel
theorem dX11_bill_67 : decode cX11_bill 67 = .ok (.ireturn, 1) := by decide +kernel
set_option maxHeartbeats 4000000 in
set_option maxRecDepth 100000 in
theorem s_X11_bill {l : Launch} {G : Gc} (qm : Nat) (a1 : Int32) (qm_thrown : Int32) (qm_tape : Nat) (qm_taped : Int32) (qm_size : Int32) (qm_limit : Int32) (qm_to : Int32) (qm_from : Int32) (qm_kind : Int32) (qm_number : Int32) (qm_sign : Int32) (qm_fault : Int32) (qm_place : Int32) (qm_word : Int64) (qm_told : Int32) (qm_now : Nat) (qm_read : Nat) (qm_kept : Nat) (qm_snaps : Nat) (qm_aside : Nat) (qm_name : Nat) (qm_readName : Nat) (qm_keptName : Nat) (qm_isKept : Nat) (qm_onces : Nat) (qm_snapMany : Int32) (qm_order : Nat) (qm_ordered : Nat) (qm_orderMany : Int32) (qm_orderMost : Int32) (qm_passing : Int32) (qm_movedWho : Int32) (qm_scratched : Int32) (qm_text : Nat) (qm_texts : Int32) (qm_seed : Int32) (qm_line : Nat) (qm_written : Nat) (qm_lineMany : Int32) (qm_hasWritten : Int32) (qm_node : Nat) (qm_nodes : Int32) (qm_onesMany : Int32) (qm_within : Int32) (qm_top : Int32) (qm_now_c : Nat → Int32) (qm_name_c : Nat → Int64) (qm_text_c : Nat → Int32) (hf_qm_now_c : slI qm_now_c) (hf1_qm_now_c : trI qm_now_c) (hi_qm_texts : 0 ≤ qm_texts.toInt ∧ qm_texts.toInt ≤ 64) : Ci l yX11_bill cX11_bill 2 (some .int) 16 0 0 G [.ref qm, .int a1] [(qm, .inr (10, [.int qm_thrown, .ref qm_tape, .int qm_taped, .int qm_size, .int qm_limit, .int qm_to, .int qm_from, .int qm_kind, .int qm_number, .int qm_sign, .int qm_fault, .int qm_place, .long qm_word, .int qm_told, .ref qm_now, .ref qm_read, .ref qm_kept, .ref qm_snaps, .ref qm_aside, .ref qm_name, .ref qm_readName, .ref qm_keptName, .ref qm_isKept, .ref qm_onces, .int qm_snapMany, .ref qm_order, .ref qm_ordered, .int qm_orderMany, .int qm_orderMost, .int qm_passing, .int qm_movedWho, .int qm_scratched, .ref qm_text, .int qm_texts, .int qm_seed, .ref qm_line, .ref qm_written, .int qm_lineMany, .int qm_hasWritten, .ref qm_node, .int qm_nodes, .int qm_onesMany, .int qm_within, .int qm_top])), (qm_now, eI G 339 qm_now_c), (qm_name, eJ G 14 qm_name_c), (qm_text, eI G 64 qm_text_c)] (fun (r9 : Int32) (u9 : va_W) => ∃ (x0_qm_texts : Int32) (x1_qm_text_c : Nat → Int32) (r_x : Int32), r9 = r_x ∧ u9 = [(qm, .inr (10, [.int 0, .ref qm_tape, .int qm_taped, .int qm_size, .int qm_limit, .int qm_to, .int qm_from, .int qm_kind, .int qm_number, .int qm_sign, .int qm_fault, .int qm_place, .long qm_word, .int qm_told, .ref qm_now, .ref qm_read, .ref qm_kept, .ref qm_snaps, .ref qm_aside, .ref qm_name, .ref qm_readName, .ref qm_keptName, .ref qm_isKept, .ref qm_onces, .int qm_snapMany, .ref qm_order, .ref qm_ordered, .int qm_orderMany, .int qm_orderMost, .int qm_passing, .int qm_movedWho, .int qm_scratched, .ref qm_text, .int x0_qm_texts, .int qm_seed, .ref qm_line, .ref qm_written, .int qm_lineMany, .int qm_hasWritten, .ref qm_node, .int qm_nodes, .int qm_onesMany, .int qm_within, .int qm_top])), (qm_now, eI G 339 qm_now_c), (qm_name, eJ G 14 qm_name_c), (qm_text, eI G 64 x1_qm_text_c)] ∧ (0 ≤ x0_qm_texts.toInt ∧ x0_qm_texts.toInt ≤ 64) ∧ ((-1) ≤ r_x.toInt ∧ r_x.toInt ≤ 64)) := by
  refine Ci.ofQ (by decide) (Nat.le_of_ble_eq_true rfl) ?_
  intro p e s m below meth c ls A args Q hQ B hw hl
  have C : CallFix p m c cX11_bill 2 s args gw "LanternStateModel" := B.1
  have hl : lv_has ls 2 [(0, .ref qm), (1, .int a1)] := hl
  refine lv_aload_n C.1 C.2.1 dX11_bill_0 rfl (lv_at hl 0 rfl) ?_
  refine lv_iconst (v := 0) C.1 C.2.1 dX11_bill_1 (by decide) ?_
  refine x_put (w' := [(qm, .inr (10, [.int 0, .ref qm_tape, .int qm_taped, .int qm_size, .int qm_limit, .int qm_to, .int qm_from, .int qm_kind, .int qm_number, .int qm_sign, .int qm_fault, .int qm_place, .long qm_word, .int qm_told, .ref qm_now, .ref qm_read, .ref qm_kept, .ref qm_snaps, .ref qm_aside, .ref qm_name, .ref qm_readName, .ref qm_keptName, .ref qm_isKept, .ref qm_onces, .int qm_snapMany, .ref qm_order, .ref qm_ordered, .int qm_orderMany, .int qm_orderMost, .int qm_passing, .int qm_movedWho, .int qm_scratched, .ref qm_text, .int qm_texts, .int qm_seed, .ref qm_line, .ref qm_written, .int qm_lineMany, .int qm_hasWritten, .ref qm_node, .int qm_nodes, .int qm_onesMany, .int qm_within, .int qm_top])), (qm_now, eI G 339 qm_now_c), (qm_name, eJ G 14 qm_name_c), (qm_text, eI G 64 qm_text_c)]) C hw iwX11 tyX11_ok nmX11 10 rfl 0 rfl 0 (by decide) kw1193 rfl rfl rfl (Nat.le_of_ble_eq_true rfl) rfl dX11_bill_2 (fun H locs hw => ?_)
  refine lv_aload_n C.1 C.2.1 dX11_bill_5 rfl (lv_at hl 0 rfl) ?_
  refine lv_iload_n C.1 C.2.1 dX11_bill_6 rfl (lv_at hl 1 rfl) ?_
  refine x_calliV (As := [.int a1]) (rest := []) (wr := [(qm_name, eJ G 14 qm_name_c), (qm_text, eI G 64 qm_text_c)]) C hw (s_X11_isSlide qm a1 0 qm_tape qm_taped qm_size qm_limit qm_to qm_from qm_kind qm_number qm_sign qm_fault qm_place qm_word qm_told qm_now qm_read qm_kept qm_snaps qm_aside qm_name qm_readName qm_keptName qm_isKept qm_onces qm_snapMany qm_order qm_ordered qm_orderMany qm_orderMost qm_passing qm_movedWho qm_scratched qm_text qm_texts qm_seed qm_line qm_written qm_lineMany qm_hasWritten qm_node qm_nodes qm_onesMany qm_within qm_top qm_now_c hf_qm_now_c hf1_qm_now_c) mwX11_isSlide kw1465 [0, 1] [2, 3] rfl rfl rfl rfl (by decide) 0 rfl rfl rfl rfl hl.1 rfl (Nat.le_of_ble_eq_true rfl) ⟨(Nat.le_of_ble_eq_true rfl), (Nat.le_of_ble_eq_true rfl)⟩ ⟨(Nat.le_of_ble_eq_true rfl), (Nat.le_of_ble_eq_true rfl)⟩ dX11_bill_7 (fun r1 u9 H locs hp9 hw => ?_)
  rcases hp9 with ⟨rfl, rfl⟩ | ⟨rfl, rfl, hf2, hf3⟩
  · skip
    have hw : Wd G s A [(qm_name, eJ G 14 qm_name_c), (qm_text, eI G 64 qm_text_c), (qm, .inr (10, [.int 0, .ref qm_tape, .int qm_taped, .int qm_size, .int qm_limit, .int qm_to, .int qm_from, .int qm_kind, .int qm_number, .int qm_sign, .int qm_fault, .int qm_place, .long qm_word, .int qm_told, .ref qm_now, .ref qm_read, .ref qm_kept, .ref qm_snaps, .ref qm_aside, .ref qm_name, .ref qm_readName, .ref qm_keptName, .ref qm_isKept, .ref qm_onces, .int qm_snapMany, .ref qm_order, .ref qm_ordered, .int qm_orderMany, .int qm_orderMost, .int qm_passing, .int qm_movedWho, .int qm_scratched, .ref qm_text, .int qm_texts, .int qm_seed, .ref qm_line, .ref qm_written, .int qm_lineMany, .int qm_hasWritten, .ref qm_node, .int qm_nodes, .int qm_onesMany, .int qm_within, .int qm_top])), (qm_now, eI G 339 qm_now_c)] H _ := hw
    refine lv_if_ne (tgt := 15) C.1 C.2.1 dX11_bill_10 (by decide) (fun h9 => absurd (by decide) h9) (fun _ => ?_)
    refine lv_iconst (v := (-1)) C.1 C.2.1 dX11_bill_13 (by decide) ?_
    have hw := hw.sub (w' := [(qm, .inr (10, [.int 0, .ref qm_tape, .int qm_taped, .int qm_size, .int qm_limit, .int qm_to, .int qm_from, .int qm_kind, .int qm_number, .int qm_sign, .int qm_fault, .int qm_place, .long qm_word, .int qm_told, .ref qm_now, .ref qm_read, .ref qm_kept, .ref qm_snaps, .ref qm_aside, .ref qm_name, .ref qm_readName, .ref qm_keptName, .ref qm_isKept, .ref qm_onces, .int qm_snapMany, .ref qm_order, .ref qm_ordered, .int qm_orderMany, .int qm_orderMost, .int qm_passing, .int qm_movedWho, .int qm_scratched, .ref qm_text, .int qm_texts, .int qm_seed, .ref qm_line, .ref qm_written, .int qm_lineMany, .int qm_hasWritten, .ref qm_node, .int qm_nodes, .int qm_onesMany, .int qm_within, .int qm_top])), (qm_now, eI G 339 qm_now_c), (qm_name, eJ G 14 qm_name_c), (qm_text, eI G 64 qm_text_c)]) [2, 3, 0, 1] rfl rfl
    exact x_retiQ hQ B hw ⟨qm_texts, qm_text_c, (-1), rfl, rfl, (by omega), (by decide)⟩ (Nat.le_of_ble_eq_true rfl) (Nat.le_of_ble_eq_true rfl) dX11_bill_14
  · skip
    have hw : Wd G s A [(qm_name, eJ G 14 qm_name_c), (qm_text, eI G 64 qm_text_c), (qm, .inr (10, [.int 0, .ref qm_tape, .int qm_taped, .int qm_size, .int qm_limit, .int qm_to, .int qm_from, .int qm_kind, .int qm_number, .int qm_sign, .int qm_fault, .int qm_place, .long qm_word, .int qm_told, .ref qm_now, .ref qm_read, .ref qm_kept, .ref qm_snaps, .ref qm_aside, .ref qm_name, .ref qm_readName, .ref qm_keptName, .ref qm_isKept, .ref qm_onces, .int qm_snapMany, .ref qm_order, .ref qm_ordered, .int qm_orderMany, .int qm_orderMost, .int qm_passing, .int qm_movedWho, .int qm_scratched, .ref qm_text, .int qm_texts, .int qm_seed, .ref qm_line, .ref qm_written, .int qm_lineMany, .int qm_hasWritten, .ref qm_node, .int qm_nodes, .int qm_onesMany, .int qm_within, .int qm_top])), (qm_now, eI G 339 qm_now_c)] H _ := hw
    refine lv_if_ne (tgt := 15) C.1 C.2.1 dX11_bill_10 (by decide) (fun _ => ?_) (fun h9 => absurd h9 (by decide))
    refine lv_aload_n C.1 C.2.1 dX11_bill_15 rfl (lv_at hl 0 rfl) ?_
    refine lv_iconst (v := 0) C.1 C.2.1 dX11_bill_16 (by decide) ?_
    refine x_put (w' := [(qm_name, eJ G 14 qm_name_c), (qm_text, eI G 64 qm_text_c), (qm, .inr (10, [.int 0, .ref qm_tape, .int qm_taped, .int qm_size, .int qm_limit, .int qm_to, .int qm_from, .int qm_kind, .int qm_number, .int qm_sign, .int qm_fault, .int qm_place, .long qm_word, .int qm_told, .ref qm_now, .ref qm_read, .ref qm_kept, .ref qm_snaps, .ref qm_aside, .ref qm_name, .ref qm_readName, .ref qm_keptName, .ref qm_isKept, .ref qm_onces, .int qm_snapMany, .ref qm_order, .ref qm_ordered, .int qm_orderMany, .int qm_orderMost, .int qm_passing, .int qm_movedWho, .int qm_scratched, .ref qm_text, .int 0, .int qm_seed, .ref qm_line, .ref qm_written, .int qm_lineMany, .int qm_hasWritten, .ref qm_node, .int qm_nodes, .int qm_onesMany, .int qm_within, .int qm_top])), (qm_now, eI G 339 qm_now_c)]) C hw iwX11 tyX11_ok nmX11 10 rfl 2 rfl 33 (by decide) kw1226 rfl rfl rfl (Nat.le_of_ble_eq_true rfl) rfl dX11_bill_17 (fun H locs hw => ?_)
    refine lv_aload_n C.1 C.2.1 dX11_bill_20 rfl (lv_at hl 0 rfl) ?_
    refine lv_aload_n C.1 C.2.1 dX11_bill_21 rfl (lv_at hl 0 rfl) ?_
    refine x_get C hw iwX11 10 rfl 2 rfl 19 (by decide) kw1212 rfl dX11_bill_22 ?_
    refine lv_iload_n C.1 C.2.1 dX11_bill_25 rfl (lv_at hl 1 rfl) ?_
    refine x_lald (v := (qm_name_c a1.toNatClampNeg)) C hw 0 rfl (i_in (by omega) (by omega)) rfl dX11_bill_26 (x_genl (fun v4 => ?_))
    have lbl5 := l_bd v4
    refine x_callvV (As := [.long v4]) (rest := []) (wr := [(qm_name, eJ G 14 qm_name_c), (qm_now, eI G 339 qm_now_c)]) C hw (s_X11_writeWord_14 qm v4 0 qm_tape qm_taped qm_size qm_limit qm_to qm_from qm_kind qm_number qm_sign qm_fault qm_place qm_word qm_told qm_now qm_read qm_kept qm_snaps qm_aside qm_name qm_readName qm_keptName qm_isKept qm_onces qm_snapMany qm_order qm_ordered qm_orderMany qm_orderMost qm_passing qm_movedWho qm_scratched qm_text 0 qm_seed qm_line qm_written qm_lineMany qm_hasWritten qm_node qm_nodes qm_onesMany qm_within qm_top qm_text_c (by decide) (by omega) (by have e0 : (0 : Int32).toInt = 0 := rfl; omega)) mwX11_writeWord kw1671 [2, 1] [0, 3] rfl rfl rfl rfl (by decide) 0 rfl rfl rfl rfl hl.1 rfl (Nat.le_of_ble_eq_true rfl) ⟨(Nat.le_of_ble_eq_true rfl), (Nat.le_of_ble_eq_true rfl)⟩ ⟨(Nat.le_of_ble_eq_true rfl), (Nat.le_of_ble_eq_true rfl)⟩ dX11_bill_27 (fun  u9 H locs hp9 hw => ?_)
    obtain ⟨x6, x7, rfl, hf8, hf9⟩ := hp9
    have hw : Wd G s A [(qm_name, eJ G 14 qm_name_c), (qm_now, eI G 339 qm_now_c), (qm, .inr (10, [.int 0, .ref qm_tape, .int qm_taped, .int qm_size, .int qm_limit, .int qm_to, .int qm_from, .int qm_kind, .int qm_number, .int qm_sign, .int qm_fault, .int qm_place, .long qm_word, .int qm_told, .ref qm_now, .ref qm_read, .ref qm_kept, .ref qm_snaps, .ref qm_aside, .ref qm_name, .ref qm_readName, .ref qm_keptName, .ref qm_isKept, .ref qm_onces, .int qm_snapMany, .ref qm_order, .ref qm_ordered, .int qm_orderMany, .int qm_orderMost, .int qm_passing, .int qm_movedWho, .int qm_scratched, .ref qm_text, .int x6, .int qm_seed, .ref qm_line, .ref qm_written, .int qm_lineMany, .int qm_hasWritten, .ref qm_node, .int qm_nodes, .int qm_onesMany, .int qm_within, .int qm_top])), (qm_text, eI G 64 x7)] H _ := hw
    have hf9 : 0 ≤ x6.toInt ∧ x6.toInt ≤ 0 + 14 := by first | exact hf9 | (have e0 : (0 : Int32).toInt = 0 := rfl; omega)
    refine lv_aload_n C.1 C.2.1 dX11_bill_30 rfl (lv_at hl 0 rfl) ?_
    refine lv_bipush (v := 105) C.1 C.2.1 dX11_bill_31 (by decide) ?_
    refine lv_bipush (v := 115) C.1 C.2.1 dX11_bill_33 (by decide) ?_
    refine lv_iconst (v := 0) C.1 C.2.1 dX11_bill_35 (by decide) ?_
    refine lv_iconst (v := 0) C.1 C.2.1 dX11_bill_36 (by decide) ?_
    refine lv_iconst (v := 0) C.1 C.2.1 dX11_bill_37 (by decide) ?_
    refine lv_iconst (v := 0) C.1 C.2.1 dX11_bill_38 (by decide) ?_
    refine lv_iconst (v := 0) C.1 C.2.1 dX11_bill_39 (by decide) ?_
    refine x_calllS (As := [.int 105, .int 115, .int 0, .int 0, .int 0, .int 0, .int 0]) (rest := [.ref qm]) (wr := [(qm_name, eJ G 14 qm_name_c), (qm_now, eI G 339 qm_now_c), (qm, .inr (10, [.int 0, .ref qm_tape, .int qm_taped, .int qm_size, .int qm_limit, .int qm_to, .int qm_from, .int qm_kind, .int qm_number, .int qm_sign, .int qm_fault, .int qm_place, .long qm_word, .int qm_told, .ref qm_now, .ref qm_read, .ref qm_kept, .ref qm_snaps, .ref qm_aside, .ref qm_name, .ref qm_readName, .ref qm_keptName, .ref qm_isKept, .ref qm_onces, .int qm_snapMany, .ref qm_order, .ref qm_ordered, .int qm_orderMany, .int qm_orderMost, .int qm_passing, .int qm_movedWho, .int qm_scratched, .ref qm_text, .int x6, .int qm_seed, .ref qm_line, .ref qm_written, .int qm_lineMany, .int qm_hasWritten, .ref qm_node, .int qm_nodes, .int qm_onesMany, .int qm_within, .int qm_top])), (qm_text, eI G 64 x7)]) C hw (s_X11_speltB 105 115 0 0 0 0 0 (by decide) (by decide) (by decide) (by decide) (by decide) (by decide) (by decide) (by have e0 : (0 : Int32).toInt = 0 := rfl; omega) (by have e0 : (0 : Int32).toInt = 0 := rfl; omega) (by have e0 : (0 : Int32).toInt = 0 := rfl; omega) (by have e0 : (0 : Int32).toInt = 0 := rfl; omega) (by have e0 : (0 : Int32).toInt = 0 := rfl; omega)) mwX11_spelt kw1366 [] [0, 1, 2, 3] rfl rfl rfl rfl (by decide) rfl hl.1 rfl (Nat.le_of_ble_eq_true rfl) ⟨(Nat.le_of_ble_eq_true rfl), (Nat.le_of_ble_eq_true rfl)⟩ ⟨(Nat.le_of_ble_eq_true rfl), (Nat.le_of_ble_eq_true rfl)⟩ dX11_bill_40 (fun r10 u9 H locs hp9 hw => ?_)
    obtain ⟨x11, rfl, rfl, hf12⟩ := hp9
    have hw : Wd G s A [(qm_name, eJ G 14 qm_name_c), (qm_now, eI G 339 qm_now_c), (qm, .inr (10, [.int 0, .ref qm_tape, .int qm_taped, .int qm_size, .int qm_limit, .int qm_to, .int qm_from, .int qm_kind, .int qm_number, .int qm_sign, .int qm_fault, .int qm_place, .long qm_word, .int qm_told, .ref qm_now, .ref qm_read, .ref qm_kept, .ref qm_snaps, .ref qm_aside, .ref qm_name, .ref qm_readName, .ref qm_keptName, .ref qm_isKept, .ref qm_onces, .int qm_snapMany, .ref qm_order, .ref qm_ordered, .int qm_orderMany, .int qm_orderMost, .int qm_passing, .int qm_movedWho, .int qm_scratched, .ref qm_text, .int x6, .int qm_seed, .ref qm_line, .ref qm_written, .int qm_lineMany, .int qm_hasWritten, .ref qm_node, .int qm_nodes, .int qm_onesMany, .int qm_within, .int qm_top])), (qm_text, eI G 64 x7)] H _ := hw
    refine x_callvV (As := [.long r10]) (rest := []) (wr := [(qm_name, eJ G 14 qm_name_c), (qm_now, eI G 339 qm_now_c)]) C hw (s_X11_writeNext_7 qm r10 0 qm_tape qm_taped qm_size qm_limit qm_to qm_from qm_kind qm_number qm_sign qm_fault qm_place qm_word qm_told qm_now qm_read qm_kept qm_snaps qm_aside qm_name qm_readName qm_keptName qm_isKept qm_onces qm_snapMany qm_order qm_ordered qm_orderMany qm_orderMost qm_passing qm_movedWho qm_scratched qm_text x6 qm_seed qm_line qm_written qm_lineMany qm_hasWritten qm_node qm_nodes qm_onesMany qm_within qm_top x7 (by omega) (by omega) (by omega)) mwX11_writeNext kw1679 [2, 3] [0, 1] rfl rfl rfl rfl (by decide) 0 rfl rfl rfl rfl hl.1 rfl (Nat.le_of_ble_eq_true rfl) ⟨(Nat.le_of_ble_eq_true rfl), (Nat.le_of_ble_eq_true rfl)⟩ ⟨(Nat.le_of_ble_eq_true rfl), (Nat.le_of_ble_eq_true rfl)⟩ dX11_bill_43 (fun  u9 H locs hp9 hw => ?_)
    obtain ⟨x13, x14, rfl, hf15, hf16⟩ := hp9
    have hw : Wd G s A [(qm_name, eJ G 14 qm_name_c), (qm_now, eI G 339 qm_now_c), (qm, .inr (10, [.int 0, .ref qm_tape, .int qm_taped, .int qm_size, .int qm_limit, .int qm_to, .int qm_from, .int qm_kind, .int qm_number, .int qm_sign, .int qm_fault, .int qm_place, .long qm_word, .int qm_told, .ref qm_now, .ref qm_read, .ref qm_kept, .ref qm_snaps, .ref qm_aside, .ref qm_name, .ref qm_readName, .ref qm_keptName, .ref qm_isKept, .ref qm_onces, .int qm_snapMany, .ref qm_order, .ref qm_ordered, .int qm_orderMany, .int qm_orderMost, .int qm_passing, .int qm_movedWho, .int qm_scratched, .ref qm_text, .int x13, .int qm_seed, .ref qm_line, .ref qm_written, .int qm_lineMany, .int qm_hasWritten, .ref qm_node, .int qm_nodes, .int qm_onesMany, .int qm_within, .int qm_top])), (qm_text, eI G 64 x14)] H _ := hw
    refine lv_aload_n C.1 C.2.1 dX11_bill_46 rfl (lv_at hl 0 rfl) ?_
    refine lv_iload_n C.1 C.2.1 dX11_bill_47 rfl (lv_at hl 1 rfl) ?_
    refine x_calliV (As := [.int a1]) (rest := []) (wr := [(qm_name, eJ G 14 qm_name_c), (qm_text, eI G 64 x14)]) C hw (s_X11_isSo qm a1 0 qm_tape qm_taped qm_size qm_limit qm_to qm_from qm_kind qm_number qm_sign qm_fault qm_place qm_word qm_told qm_now qm_read qm_kept qm_snaps qm_aside qm_name qm_readName qm_keptName qm_isKept qm_onces qm_snapMany qm_order qm_ordered qm_orderMany qm_orderMost qm_passing qm_movedWho qm_scratched qm_text x13 qm_seed qm_line qm_written qm_lineMany qm_hasWritten qm_node qm_nodes qm_onesMany qm_within qm_top qm_now_c hf_qm_now_c hf1_qm_now_c) mwX11_isSo kw1476 [2, 1] [0, 3] rfl rfl rfl rfl (by decide) 0 rfl rfl rfl rfl hl.1 rfl (Nat.le_of_ble_eq_true rfl) ⟨(Nat.le_of_ble_eq_true rfl), (Nat.le_of_ble_eq_true rfl)⟩ ⟨(Nat.le_of_ble_eq_true rfl), (Nat.le_of_ble_eq_true rfl)⟩ dX11_bill_48 (fun r17 u9 H locs hp9 hw => ?_)
    rcases hp9 with ⟨rfl, rfl⟩ | ⟨rfl, rfl⟩
    · skip
      have hw : Wd G s A [(qm_name, eJ G 14 qm_name_c), (qm_text, eI G 64 x14), (qm, .inr (10, [.int 0, .ref qm_tape, .int qm_taped, .int qm_size, .int qm_limit, .int qm_to, .int qm_from, .int qm_kind, .int qm_number, .int qm_sign, .int qm_fault, .int qm_place, .long qm_word, .int qm_told, .ref qm_now, .ref qm_read, .ref qm_kept, .ref qm_snaps, .ref qm_aside, .ref qm_name, .ref qm_readName, .ref qm_keptName, .ref qm_isKept, .ref qm_onces, .int qm_snapMany, .ref qm_order, .ref qm_ordered, .int qm_orderMany, .int qm_orderMost, .int qm_passing, .int qm_movedWho, .int qm_scratched, .ref qm_text, .int x13, .int qm_seed, .ref qm_line, .ref qm_written, .int qm_lineMany, .int qm_hasWritten, .ref qm_node, .int qm_nodes, .int qm_onesMany, .int qm_within, .int qm_top])), (qm_now, eI G 339 qm_now_c)] H _ := hw
      refine lv_if_eq (tgt := 68) C.1 C.2.1 dX11_bill_51 (by decide) (fun _ => ?_) (fun h9 => absurd (by decide) h9)
      refine lv_aload_n C.1 C.2.1 dX11_bill_68 rfl (lv_at hl 0 rfl) ?_
      refine lv_iload_n C.1 C.2.1 dX11_bill_69 rfl (lv_at hl 1 rfl) ?_
      refine x_calliV (As := [.int a1]) (rest := []) (wr := [(qm_name, eJ G 14 qm_name_c), (qm_text, eI G 64 x14)]) C hw (s_X11_isCracked qm a1 0 qm_tape qm_taped qm_size qm_limit qm_to qm_from qm_kind qm_number qm_sign qm_fault qm_place qm_word qm_told qm_now qm_read qm_kept qm_snaps qm_aside qm_name qm_readName qm_keptName qm_isKept qm_onces qm_snapMany qm_order qm_ordered qm_orderMany qm_orderMost qm_passing qm_movedWho qm_scratched qm_text x13 qm_seed qm_line qm_written qm_lineMany qm_hasWritten qm_node qm_nodes qm_onesMany qm_within qm_top qm_now_c hf_qm_now_c hf1_qm_now_c) mwX11_isCracked kw1480 [2, 3] [0, 1] rfl rfl rfl rfl (by decide) 0 rfl rfl rfl rfl hl.1 rfl (Nat.le_of_ble_eq_true rfl) ⟨(Nat.le_of_ble_eq_true rfl), (Nat.le_of_ble_eq_true rfl)⟩ ⟨(Nat.le_of_ble_eq_true rfl), (Nat.le_of_ble_eq_true rfl)⟩ dX11_bill_70 (fun r18 u9 H locs hp9 hw => ?_)
      rcases hp9 with ⟨rfl, rfl⟩ | ⟨rfl, rfl⟩
      · skip
        have hw : Wd G s A [(qm_name, eJ G 14 qm_name_c), (qm_text, eI G 64 x14), (qm, .inr (10, [.int 0, .ref qm_tape, .int qm_taped, .int qm_size, .int qm_limit, .int qm_to, .int qm_from, .int qm_kind, .int qm_number, .int qm_sign, .int qm_fault, .int qm_place, .long qm_word, .int qm_told, .ref qm_now, .ref qm_read, .ref qm_kept, .ref qm_snaps, .ref qm_aside, .ref qm_name, .ref qm_readName, .ref qm_keptName, .ref qm_isKept, .ref qm_onces, .int qm_snapMany, .ref qm_order, .ref qm_ordered, .int qm_orderMany, .int qm_orderMost, .int qm_passing, .int qm_movedWho, .int qm_scratched, .ref qm_text, .int x13, .int qm_seed, .ref qm_line, .ref qm_written, .int qm_lineMany, .int qm_hasWritten, .ref qm_node, .int qm_nodes, .int qm_onesMany, .int qm_within, .int qm_top])), (qm_now, eI G 339 qm_now_c)] H _ := hw
        refine lv_if_eq (tgt := 90) C.1 C.2.1 dX11_bill_73 (by decide) (fun _ => ?_) (fun h9 => absurd (by decide) h9)
        refine lv_aload_n C.1 C.2.1 dX11_bill_90 rfl (lv_at hl 0 rfl) ?_
        refine lv_bipush (v := 18) C.1 C.2.1 dX11_bill_91 (by decide) ?_
        refine x_calllS (As := [.int 18]) (rest := [.ref qm]) (wr := [(qm_name, eJ G 14 qm_name_c), (qm_text, eI G 64 x14), (qm, .inr (10, [.int 0, .ref qm_tape, .int qm_taped, .int qm_size, .int qm_limit, .int qm_to, .int qm_from, .int qm_kind, .int qm_number, .int qm_sign, .int qm_fault, .int qm_place, .long qm_word, .int qm_told, .ref qm_now, .ref qm_read, .ref qm_kept, .ref qm_snaps, .ref qm_aside, .ref qm_name, .ref qm_readName, .ref qm_keptName, .ref qm_isKept, .ref qm_onces, .int qm_snapMany, .ref qm_order, .ref qm_ordered, .int qm_orderMany, .int qm_orderMost, .int qm_passing, .int qm_movedWho, .int qm_scratched, .ref qm_text, .int x13, .int qm_seed, .ref qm_line, .ref qm_written, .int qm_lineMany, .int qm_hasWritten, .ref qm_node, .int qm_nodes, .int qm_onesMany, .int qm_within, .int qm_top])), (qm_now, eI G 339 qm_now_c)]) C hw (s_X11_wordOfB 18) mwX11_wordOf kw1363 [] [0, 1, 2, 3] rfl rfl rfl rfl (by decide) rfl hl.1 rfl (Nat.le_of_ble_eq_true rfl) ⟨(Nat.le_of_ble_eq_true rfl), (Nat.le_of_ble_eq_true rfl)⟩ ⟨(Nat.le_of_ble_eq_true rfl), (Nat.le_of_ble_eq_true rfl)⟩ dX11_bill_93 (fun r19 u9 H locs hp9 hw => ?_)
        obtain ⟨x20, rfl, rfl, hf21⟩ := hp9
        have hw : Wd G s A [(qm_name, eJ G 14 qm_name_c), (qm_text, eI G 64 x14), (qm, .inr (10, [.int 0, .ref qm_tape, .int qm_taped, .int qm_size, .int qm_limit, .int qm_to, .int qm_from, .int qm_kind, .int qm_number, .int qm_sign, .int qm_fault, .int qm_place, .long qm_word, .int qm_told, .ref qm_now, .ref qm_read, .ref qm_kept, .ref qm_snaps, .ref qm_aside, .ref qm_name, .ref qm_readName, .ref qm_keptName, .ref qm_isKept, .ref qm_onces, .int qm_snapMany, .ref qm_order, .ref qm_ordered, .int qm_orderMany, .int qm_orderMost, .int qm_passing, .int qm_movedWho, .int qm_scratched, .ref qm_text, .int x13, .int qm_seed, .ref qm_line, .ref qm_written, .int qm_lineMany, .int qm_hasWritten, .ref qm_node, .int qm_nodes, .int qm_onesMany, .int qm_within, .int qm_top])), (qm_now, eI G 339 qm_now_c)] H _ := hw
        refine x_callvV (As := [.long r19]) (rest := []) (wr := [(qm_name, eJ G 14 qm_name_c), (qm_now, eI G 339 qm_now_c)]) C hw (s_X11_writeNext_7 qm r19 0 qm_tape qm_taped qm_size qm_limit qm_to qm_from qm_kind qm_number qm_sign qm_fault qm_place qm_word qm_told qm_now qm_read qm_kept qm_snaps qm_aside qm_name qm_readName qm_keptName qm_isKept qm_onces qm_snapMany qm_order qm_ordered qm_orderMany qm_orderMost qm_passing qm_movedWho qm_scratched qm_text x13 qm_seed qm_line qm_written qm_lineMany qm_hasWritten qm_node qm_nodes qm_onesMany qm_within qm_top x14 (by omega) (by omega) (by omega)) mwX11_writeNext kw1679 [2, 1] [0, 3] rfl rfl rfl rfl (by decide) 0 rfl rfl rfl rfl hl.1 rfl (Nat.le_of_ble_eq_true rfl) ⟨(Nat.le_of_ble_eq_true rfl), (Nat.le_of_ble_eq_true rfl)⟩ ⟨(Nat.le_of_ble_eq_true rfl), (Nat.le_of_ble_eq_true rfl)⟩ dX11_bill_96 (fun  u9 H locs hp9 hw => ?_)
        obtain ⟨x22, x23, rfl, hf24, hf25⟩ := hp9
        have hw : Wd G s A [(qm_name, eJ G 14 qm_name_c), (qm_now, eI G 339 qm_now_c), (qm, .inr (10, [.int 0, .ref qm_tape, .int qm_taped, .int qm_size, .int qm_limit, .int qm_to, .int qm_from, .int qm_kind, .int qm_number, .int qm_sign, .int qm_fault, .int qm_place, .long qm_word, .int qm_told, .ref qm_now, .ref qm_read, .ref qm_kept, .ref qm_snaps, .ref qm_aside, .ref qm_name, .ref qm_readName, .ref qm_keptName, .ref qm_isKept, .ref qm_onces, .int qm_snapMany, .ref qm_order, .ref qm_ordered, .int qm_orderMany, .int qm_orderMost, .int qm_passing, .int qm_movedWho, .int qm_scratched, .ref qm_text, .int x22, .int qm_seed, .ref qm_line, .ref qm_written, .int qm_lineMany, .int qm_hasWritten, .ref qm_node, .int qm_nodes, .int qm_onesMany, .int qm_within, .int qm_top])), (qm_text, eI G 64 x23)] H _ := hw
        refine lv_aload_n C.1 C.2.1 dX11_bill_99 rfl (lv_at hl 0 rfl) ?_
        refine lv_bipush (v := 19) C.1 C.2.1 dX11_bill_100 (by decide) ?_
        refine x_calllS (As := [.int 19]) (rest := [.ref qm]) (wr := [(qm_name, eJ G 14 qm_name_c), (qm_now, eI G 339 qm_now_c), (qm, .inr (10, [.int 0, .ref qm_tape, .int qm_taped, .int qm_size, .int qm_limit, .int qm_to, .int qm_from, .int qm_kind, .int qm_number, .int qm_sign, .int qm_fault, .int qm_place, .long qm_word, .int qm_told, .ref qm_now, .ref qm_read, .ref qm_kept, .ref qm_snaps, .ref qm_aside, .ref qm_name, .ref qm_readName, .ref qm_keptName, .ref qm_isKept, .ref qm_onces, .int qm_snapMany, .ref qm_order, .ref qm_ordered, .int qm_orderMany, .int qm_orderMost, .int qm_passing, .int qm_movedWho, .int qm_scratched, .ref qm_text, .int x22, .int qm_seed, .ref qm_line, .ref qm_written, .int qm_lineMany, .int qm_hasWritten, .ref qm_node, .int qm_nodes, .int qm_onesMany, .int qm_within, .int qm_top])), (qm_text, eI G 64 x23)]) C hw (s_X11_wordOfB 19) mwX11_wordOf kw1363 [] [0, 1, 2, 3] rfl rfl rfl rfl (by decide) rfl hl.1 rfl (Nat.le_of_ble_eq_true rfl) ⟨(Nat.le_of_ble_eq_true rfl), (Nat.le_of_ble_eq_true rfl)⟩ ⟨(Nat.le_of_ble_eq_true rfl), (Nat.le_of_ble_eq_true rfl)⟩ dX11_bill_102 (fun r26 u9 H locs hp9 hw => ?_)
        obtain ⟨x27, rfl, rfl, hf28⟩ := hp9
        have hw : Wd G s A [(qm_name, eJ G 14 qm_name_c), (qm_now, eI G 339 qm_now_c), (qm, .inr (10, [.int 0, .ref qm_tape, .int qm_taped, .int qm_size, .int qm_limit, .int qm_to, .int qm_from, .int qm_kind, .int qm_number, .int qm_sign, .int qm_fault, .int qm_place, .long qm_word, .int qm_told, .ref qm_now, .ref qm_read, .ref qm_kept, .ref qm_snaps, .ref qm_aside, .ref qm_name, .ref qm_readName, .ref qm_keptName, .ref qm_isKept, .ref qm_onces, .int qm_snapMany, .ref qm_order, .ref qm_ordered, .int qm_orderMany, .int qm_orderMost, .int qm_passing, .int qm_movedWho, .int qm_scratched, .ref qm_text, .int x22, .int qm_seed, .ref qm_line, .ref qm_written, .int qm_lineMany, .int qm_hasWritten, .ref qm_node, .int qm_nodes, .int qm_onesMany, .int qm_within, .int qm_top])), (qm_text, eI G 64 x23)] H _ := hw
        refine x_callvV (As := [.long r26]) (rest := []) (wr := [(qm_name, eJ G 14 qm_name_c), (qm_now, eI G 339 qm_now_c)]) C hw (s_X11_writeNext_7 qm r26 0 qm_tape qm_taped qm_size qm_limit qm_to qm_from qm_kind qm_number qm_sign qm_fault qm_place qm_word qm_told qm_now qm_read qm_kept qm_snaps qm_aside qm_name qm_readName qm_keptName qm_isKept qm_onces qm_snapMany qm_order qm_ordered qm_orderMany qm_orderMost qm_passing qm_movedWho qm_scratched qm_text x22 qm_seed qm_line qm_written qm_lineMany qm_hasWritten qm_node qm_nodes qm_onesMany qm_within qm_top x23 (by omega) (by omega) (by omega)) mwX11_writeNext kw1679 [2, 3] [0, 1] rfl rfl rfl rfl (by decide) 0 rfl rfl rfl rfl hl.1 rfl (Nat.le_of_ble_eq_true rfl) ⟨(Nat.le_of_ble_eq_true rfl), (Nat.le_of_ble_eq_true rfl)⟩ ⟨(Nat.le_of_ble_eq_true rfl), (Nat.le_of_ble_eq_true rfl)⟩ dX11_bill_105 (fun  u9 H locs hp9 hw => ?_)
        obtain ⟨x29, x30, rfl, hf31, hf32⟩ := hp9
        have hw : Wd G s A [(qm_name, eJ G 14 qm_name_c), (qm_now, eI G 339 qm_now_c), (qm, .inr (10, [.int 0, .ref qm_tape, .int qm_taped, .int qm_size, .int qm_limit, .int qm_to, .int qm_from, .int qm_kind, .int qm_number, .int qm_sign, .int qm_fault, .int qm_place, .long qm_word, .int qm_told, .ref qm_now, .ref qm_read, .ref qm_kept, .ref qm_snaps, .ref qm_aside, .ref qm_name, .ref qm_readName, .ref qm_keptName, .ref qm_isKept, .ref qm_onces, .int qm_snapMany, .ref qm_order, .ref qm_ordered, .int qm_orderMany, .int qm_orderMost, .int qm_passing, .int qm_movedWho, .int qm_scratched, .ref qm_text, .int x29, .int qm_seed, .ref qm_line, .ref qm_written, .int qm_lineMany, .int qm_hasWritten, .ref qm_node, .int qm_nodes, .int qm_onesMany, .int qm_within, .int qm_top])), (qm_text, eI G 64 x30)] H _ := hw
        refine lv_aload_n C.1 C.2.1 dX11_bill_108 rfl (lv_at hl 0 rfl) ?_
        refine lv_iload_n C.1 C.2.1 dX11_bill_109 rfl (lv_at hl 1 rfl) ?_
        refine x_calliV (As := [.int a1]) (rest := []) (wr := [(qm_name, eJ G 14 qm_name_c), (qm_text, eI G 64 x30)]) C hw (s_X11_waitsB qm a1 0 qm_tape qm_taped qm_size qm_limit qm_to qm_from qm_kind qm_number qm_sign qm_fault qm_place qm_word qm_told qm_now qm_read qm_kept qm_snaps qm_aside qm_name qm_readName qm_keptName qm_isKept qm_onces qm_snapMany qm_order qm_ordered qm_orderMany qm_orderMost qm_passing qm_movedWho qm_scratched qm_text x29 qm_seed qm_line qm_written qm_lineMany qm_hasWritten qm_node qm_nodes qm_onesMany qm_within qm_top qm_now_c (by omega) hf_qm_now_c hf1_qm_now_c) mwX11_waits kw1557 [2, 1] [0, 3] rfl rfl rfl rfl (by decide) 0 rfl rfl rfl rfl hl.1 rfl (Nat.le_of_ble_eq_true rfl) ⟨(Nat.le_of_ble_eq_true rfl), (Nat.le_of_ble_eq_true rfl)⟩ ⟨(Nat.le_of_ble_eq_true rfl), (Nat.le_of_ble_eq_true rfl)⟩ dX11_bill_110 (fun r33 u9 H locs hp9 hw => ?_)
        rcases hp9 with ⟨rfl, rfl⟩ | ⟨rfl, rfl, hf34⟩
        · skip
          have hw : Wd G s A [(qm_name, eJ G 14 qm_name_c), (qm_text, eI G 64 x30), (qm, .inr (10, [.int 0, .ref qm_tape, .int qm_taped, .int qm_size, .int qm_limit, .int qm_to, .int qm_from, .int qm_kind, .int qm_number, .int qm_sign, .int qm_fault, .int qm_place, .long qm_word, .int qm_told, .ref qm_now, .ref qm_read, .ref qm_kept, .ref qm_snaps, .ref qm_aside, .ref qm_name, .ref qm_readName, .ref qm_keptName, .ref qm_isKept, .ref qm_onces, .int qm_snapMany, .ref qm_order, .ref qm_ordered, .int qm_orderMany, .int qm_orderMost, .int qm_passing, .int qm_movedWho, .int qm_scratched, .ref qm_text, .int x29, .int qm_seed, .ref qm_line, .ref qm_written, .int qm_lineMany, .int qm_hasWritten, .ref qm_node, .int qm_nodes, .int qm_onesMany, .int qm_within, .int qm_top])), (qm_now, eI G 339 qm_now_c)] H _ := hw
          refine lv_if_ne (tgt := 121) C.1 C.2.1 dX11_bill_113 (by decide) (fun h9 => absurd (by decide) h9) (fun _ => ?_)
          refine lv_aload_n C.1 C.2.1 dX11_bill_116 rfl (lv_at hl 0 rfl) ?_
          refine x_get C hw iwX11 10 rfl 2 rfl 33 (by decide) kw1226 rfl dX11_bill_117 ?_
          have hw := hw.sub (w' := [(qm, .inr (10, [.int 0, .ref qm_tape, .int qm_taped, .int qm_size, .int qm_limit, .int qm_to, .int qm_from, .int qm_kind, .int qm_number, .int qm_sign, .int qm_fault, .int qm_place, .long qm_word, .int qm_told, .ref qm_now, .ref qm_read, .ref qm_kept, .ref qm_snaps, .ref qm_aside, .ref qm_name, .ref qm_readName, .ref qm_keptName, .ref qm_isKept, .ref qm_onces, .int qm_snapMany, .ref qm_order, .ref qm_ordered, .int qm_orderMany, .int qm_orderMost, .int qm_passing, .int qm_movedWho, .int qm_scratched, .ref qm_text, .int x29, .int qm_seed, .ref qm_line, .ref qm_written, .int qm_lineMany, .int qm_hasWritten, .ref qm_node, .int qm_nodes, .int qm_onesMany, .int qm_within, .int qm_top])), (qm_now, eI G 339 qm_now_c), (qm_name, eJ G 14 qm_name_c), (qm_text, eI G 64 x30)]) [2, 3, 0, 1] rfl rfl
          exact x_retiQ hQ B hw ⟨x29, x30, x29, rfl, rfl, (by omega), (by omega)⟩ (Nat.le_of_ble_eq_true rfl) (Nat.le_of_ble_eq_true rfl) dX11_bill_120
        · skip
          have hw : Wd G s A [(qm_name, eJ G 14 qm_name_c), (qm_text, eI G 64 x30), (qm, .inr (10, [.int 0, .ref qm_tape, .int qm_taped, .int qm_size, .int qm_limit, .int qm_to, .int qm_from, .int qm_kind, .int qm_number, .int qm_sign, .int qm_fault, .int qm_place, .long qm_word, .int qm_told, .ref qm_now, .ref qm_read, .ref qm_kept, .ref qm_snaps, .ref qm_aside, .ref qm_name, .ref qm_readName, .ref qm_keptName, .ref qm_isKept, .ref qm_onces, .int qm_snapMany, .ref qm_order, .ref qm_ordered, .int qm_orderMany, .int qm_orderMost, .int qm_passing, .int qm_movedWho, .int qm_scratched, .ref qm_text, .int x29, .int qm_seed, .ref qm_line, .ref qm_written, .int qm_lineMany, .int qm_hasWritten, .ref qm_node, .int qm_nodes, .int qm_onesMany, .int qm_within, .int qm_top])), (qm_now, eI G 339 qm_now_c)] H _ := hw
          refine lv_if_ne (tgt := 121) C.1 C.2.1 dX11_bill_113 (by decide) (fun _ => ?_) (fun h9 => absurd h9 (by decide))
          refine lv_aload_n C.1 C.2.1 dX11_bill_121 rfl (lv_at hl 0 rfl) ?_
          refine lv_bipush (v := 102) C.1 C.2.1 dX11_bill_122 (by decide) ?_
          refine lv_bipush (v := 111) C.1 C.2.1 dX11_bill_124 (by decide) ?_
          refine lv_bipush (v := 114) C.1 C.2.1 dX11_bill_126 (by decide) ?_
          refine lv_iconst (v := 0) C.1 C.2.1 dX11_bill_128 (by decide) ?_
          refine lv_iconst (v := 0) C.1 C.2.1 dX11_bill_129 (by decide) ?_
          refine lv_iconst (v := 0) C.1 C.2.1 dX11_bill_130 (by decide) ?_
          refine lv_iconst (v := 0) C.1 C.2.1 dX11_bill_131 (by decide) ?_
          refine x_calllS (As := [.int 102, .int 111, .int 114, .int 0, .int 0, .int 0, .int 0]) (rest := [.ref qm]) (wr := [(qm_name, eJ G 14 qm_name_c), (qm_text, eI G 64 x30), (qm, .inr (10, [.int 0, .ref qm_tape, .int qm_taped, .int qm_size, .int qm_limit, .int qm_to, .int qm_from, .int qm_kind, .int qm_number, .int qm_sign, .int qm_fault, .int qm_place, .long qm_word, .int qm_told, .ref qm_now, .ref qm_read, .ref qm_kept, .ref qm_snaps, .ref qm_aside, .ref qm_name, .ref qm_readName, .ref qm_keptName, .ref qm_isKept, .ref qm_onces, .int qm_snapMany, .ref qm_order, .ref qm_ordered, .int qm_orderMany, .int qm_orderMost, .int qm_passing, .int qm_movedWho, .int qm_scratched, .ref qm_text, .int x29, .int qm_seed, .ref qm_line, .ref qm_written, .int qm_lineMany, .int qm_hasWritten, .ref qm_node, .int qm_nodes, .int qm_onesMany, .int qm_within, .int qm_top])), (qm_now, eI G 339 qm_now_c)]) C hw (s_X11_speltB 102 111 114 0 0 0 0 (by decide) (by decide) (by decide) (by decide) (by decide) (by decide) (by decide) (by have e0 : (114 : Int32).toInt = 114 := rfl; omega) (by have e0 : (0 : Int32).toInt = 0 := rfl; omega) (by have e0 : (0 : Int32).toInt = 0 := rfl; omega) (by have e0 : (0 : Int32).toInt = 0 := rfl; omega) (by have e0 : (0 : Int32).toInt = 0 := rfl; omega)) mwX11_spelt kw1366 [] [0, 1, 2, 3] rfl rfl rfl rfl (by decide) rfl hl.1 rfl (Nat.le_of_ble_eq_true rfl) ⟨(Nat.le_of_ble_eq_true rfl), (Nat.le_of_ble_eq_true rfl)⟩ ⟨(Nat.le_of_ble_eq_true rfl), (Nat.le_of_ble_eq_true rfl)⟩ dX11_bill_132 (fun r35 u9 H locs hp9 hw => ?_)
          obtain ⟨x36, rfl, rfl, hf37⟩ := hp9
          have hw : Wd G s A [(qm_name, eJ G 14 qm_name_c), (qm_text, eI G 64 x30), (qm, .inr (10, [.int 0, .ref qm_tape, .int qm_taped, .int qm_size, .int qm_limit, .int qm_to, .int qm_from, .int qm_kind, .int qm_number, .int qm_sign, .int qm_fault, .int qm_place, .long qm_word, .int qm_told, .ref qm_now, .ref qm_read, .ref qm_kept, .ref qm_snaps, .ref qm_aside, .ref qm_name, .ref qm_readName, .ref qm_keptName, .ref qm_isKept, .ref qm_onces, .int qm_snapMany, .ref qm_order, .ref qm_ordered, .int qm_orderMany, .int qm_orderMost, .int qm_passing, .int qm_movedWho, .int qm_scratched, .ref qm_text, .int x29, .int qm_seed, .ref qm_line, .ref qm_written, .int qm_lineMany, .int qm_hasWritten, .ref qm_node, .int qm_nodes, .int qm_onesMany, .int qm_within, .int qm_top])), (qm_now, eI G 339 qm_now_c)] H _ := hw
          refine x_callvV (As := [.long r35]) (rest := []) (wr := [(qm_name, eJ G 14 qm_name_c), (qm_now, eI G 339 qm_now_c)]) C hw (s_X11_writeNext_7 qm r35 0 qm_tape qm_taped qm_size qm_limit qm_to qm_from qm_kind qm_number qm_sign qm_fault qm_place qm_word qm_told qm_now qm_read qm_kept qm_snaps qm_aside qm_name qm_readName qm_keptName qm_isKept qm_onces qm_snapMany qm_order qm_ordered qm_orderMany qm_orderMost qm_passing qm_movedWho qm_scratched qm_text x29 qm_seed qm_line qm_written qm_lineMany qm_hasWritten qm_node qm_nodes qm_onesMany qm_within qm_top x30 (by omega) (by omega) (by omega)) mwX11_writeNext kw1679 [2, 1] [0, 3] rfl rfl rfl rfl (by decide) 0 rfl rfl rfl rfl hl.1 rfl (Nat.le_of_ble_eq_true rfl) ⟨(Nat.le_of_ble_eq_true rfl), (Nat.le_of_ble_eq_true rfl)⟩ ⟨(Nat.le_of_ble_eq_true rfl), (Nat.le_of_ble_eq_true rfl)⟩ dX11_bill_135 (fun  u9 H locs hp9 hw => ?_)
          obtain ⟨x38, x39, rfl, hf40, hf41⟩ := hp9
          have hw : Wd G s A [(qm_name, eJ G 14 qm_name_c), (qm_now, eI G 339 qm_now_c), (qm, .inr (10, [.int 0, .ref qm_tape, .int qm_taped, .int qm_size, .int qm_limit, .int qm_to, .int qm_from, .int qm_kind, .int qm_number, .int qm_sign, .int qm_fault, .int qm_place, .long qm_word, .int qm_told, .ref qm_now, .ref qm_read, .ref qm_kept, .ref qm_snaps, .ref qm_aside, .ref qm_name, .ref qm_readName, .ref qm_keptName, .ref qm_isKept, .ref qm_onces, .int qm_snapMany, .ref qm_order, .ref qm_ordered, .int qm_orderMany, .int qm_orderMost, .int qm_passing, .int qm_movedWho, .int qm_scratched, .ref qm_text, .int x38, .int qm_seed, .ref qm_line, .ref qm_written, .int qm_lineMany, .int qm_hasWritten, .ref qm_node, .int qm_nodes, .int qm_onesMany, .int qm_within, .int qm_top])), (qm_text, eI G 64 x39)] H _ := hw
          refine lv_aload_n C.1 C.2.1 dX11_bill_138 rfl (lv_at hl 0 rfl) ?_
          refine lv_aload_n C.1 C.2.1 dX11_bill_139 rfl (lv_at hl 0 rfl) ?_
          refine x_get C hw iwX11 10 rfl 2 rfl 19 (by decide) kw1212 rfl dX11_bill_140 ?_
          refine lv_aload_n C.1 C.2.1 dX11_bill_143 rfl (lv_at hl 0 rfl) ?_
          refine x_get C hw iwX11 10 rfl 2 rfl 14 (by decide) kw1207 rfl dX11_bill_144 ?_
          refine lv_bipush (v := 18) C.1 C.2.1 dX11_bill_147 (by decide) ?_
          refine lv_iload_n C.1 C.2.1 dX11_bill_149 rfl (lv_at hl 1 rfl) ?_
          refine lv_iadd C.1 C.2.1 dX11_bill_150 (x_genP (fun z : Int32 => z.toInt = 18 + a1.toInt) (i_add (X := 18) (Y := a1.toInt) rfl rfl (by omega) (by omega)) (fun v42 hv42 => ?_))
          have mb1 := hf_qm_now_c v42.toNatClampNeg
          have mb2 := i_cn v42
          refine x_iald (v := (qm_now_c v42.toNatClampNeg)) C hw 1 rfl (i_in (by omega) (by omega)) rfl dX11_bill_151 (x_genP (fun z : Int32 => z.toInt = (qm_now_c (18 + a1.toInt).toNat).toInt ∧ -1 ≤ z.toInt ∧ z.toInt ≤ 5) ⟨by rw [i_cn, hv42], by omega⟩ (fun v43 hv43 => ?_))
          refine x_lald (v := (qm_name_c v43.toNatClampNeg)) C hw 0 rfl (i_in (by omega) (by omega)) rfl dX11_bill_152 (x_genl (fun v44 => ?_))
          have lbl45 := l_bd v44
          refine x_callvV (As := [.long v44]) (rest := []) (wr := [(qm_name, eJ G 14 qm_name_c), (qm_now, eI G 339 qm_now_c)]) C hw (s_X11_writeNext_14 qm v44 0 qm_tape qm_taped qm_size qm_limit qm_to qm_from qm_kind qm_number qm_sign qm_fault qm_place qm_word qm_told qm_now qm_read qm_kept qm_snaps qm_aside qm_name qm_readName qm_keptName qm_isKept qm_onces qm_snapMany qm_order qm_ordered qm_orderMany qm_orderMost qm_passing qm_movedWho qm_scratched qm_text x38 qm_seed qm_line qm_written qm_lineMany qm_hasWritten qm_node qm_nodes qm_onesMany qm_within qm_top x39 (by omega) (by omega) (by omega)) mwX11_writeNext kw1679 [2, 3] [0, 1] rfl rfl rfl rfl (by decide) 0 rfl rfl rfl rfl hl.1 rfl (Nat.le_of_ble_eq_true rfl) ⟨(Nat.le_of_ble_eq_true rfl), (Nat.le_of_ble_eq_true rfl)⟩ ⟨(Nat.le_of_ble_eq_true rfl), (Nat.le_of_ble_eq_true rfl)⟩ dX11_bill_153 (fun  u9 H locs hp9 hw => ?_)
          obtain ⟨x46, x47, rfl, hf48, hf49⟩ := hp9
          have hw : Wd G s A [(qm_name, eJ G 14 qm_name_c), (qm_now, eI G 339 qm_now_c), (qm, .inr (10, [.int 0, .ref qm_tape, .int qm_taped, .int qm_size, .int qm_limit, .int qm_to, .int qm_from, .int qm_kind, .int qm_number, .int qm_sign, .int qm_fault, .int qm_place, .long qm_word, .int qm_told, .ref qm_now, .ref qm_read, .ref qm_kept, .ref qm_snaps, .ref qm_aside, .ref qm_name, .ref qm_readName, .ref qm_keptName, .ref qm_isKept, .ref qm_onces, .int qm_snapMany, .ref qm_order, .ref qm_ordered, .int qm_orderMany, .int qm_orderMost, .int qm_passing, .int qm_movedWho, .int qm_scratched, .ref qm_text, .int x46, .int qm_seed, .ref qm_line, .ref qm_written, .int qm_lineMany, .int qm_hasWritten, .ref qm_node, .int qm_nodes, .int qm_onesMany, .int qm_within, .int qm_top])), (qm_text, eI G 64 x47)] H _ := hw
          refine lv_aload_n C.1 C.2.1 dX11_bill_156 rfl (lv_at hl 0 rfl) ?_
          refine x_get C hw iwX11 10 rfl 2 rfl 33 (by decide) kw1226 rfl dX11_bill_157 ?_
          have hw := hw.sub (w' := [(qm, .inr (10, [.int 0, .ref qm_tape, .int qm_taped, .int qm_size, .int qm_limit, .int qm_to, .int qm_from, .int qm_kind, .int qm_number, .int qm_sign, .int qm_fault, .int qm_place, .long qm_word, .int qm_told, .ref qm_now, .ref qm_read, .ref qm_kept, .ref qm_snaps, .ref qm_aside, .ref qm_name, .ref qm_readName, .ref qm_keptName, .ref qm_isKept, .ref qm_onces, .int qm_snapMany, .ref qm_order, .ref qm_ordered, .int qm_orderMany, .int qm_orderMost, .int qm_passing, .int qm_movedWho, .int qm_scratched, .ref qm_text, .int x46, .int qm_seed, .ref qm_line, .ref qm_written, .int qm_lineMany, .int qm_hasWritten, .ref qm_node, .int qm_nodes, .int qm_onesMany, .int qm_within, .int qm_top])), (qm_now, eI G 339 qm_now_c), (qm_name, eJ G 14 qm_name_c), (qm_text, eI G 64 x47)]) [2, 1, 0, 3] rfl rfl
          exact x_retiQ hQ B hw ⟨x46, x47, x46, rfl, rfl, (by omega), (by omega)⟩ (Nat.le_of_ble_eq_true rfl) (Nat.le_of_ble_eq_true rfl) dX11_bill_160
      · skip
        have hw : Wd G s A [(qm_name, eJ G 14 qm_name_c), (qm_text, eI G 64 x14), (qm, .inr (10, [.int 0, .ref qm_tape, .int qm_taped, .int qm_size, .int qm_limit, .int qm_to, .int qm_from, .int qm_kind, .int qm_number, .int qm_sign, .int qm_fault, .int qm_place, .long qm_word, .int qm_told, .ref qm_now, .ref qm_read, .ref qm_kept, .ref qm_snaps, .ref qm_aside, .ref qm_name, .ref qm_readName, .ref qm_keptName, .ref qm_isKept, .ref qm_onces, .int qm_snapMany, .ref qm_order, .ref qm_ordered, .int qm_orderMany, .int qm_orderMost, .int qm_passing, .int qm_movedWho, .int qm_scratched, .ref qm_text, .int x13, .int qm_seed, .ref qm_line, .ref qm_written, .int qm_lineMany, .int qm_hasWritten, .ref qm_node, .int qm_nodes, .int qm_onesMany, .int qm_within, .int qm_top])), (qm_now, eI G 339 qm_now_c)] H _ := hw
        refine lv_if_eq (tgt := 90) C.1 C.2.1 dX11_bill_73 (by decide) (fun h9 => absurd h9 (by decide)) (fun _ => ?_)
        refine lv_aload_n C.1 C.2.1 dX11_bill_76 rfl (lv_at hl 0 rfl) ?_
        refine lv_bipush (v := 20) C.1 C.2.1 dX11_bill_77 (by decide) ?_
        refine x_calllS (As := [.int 20]) (rest := [.ref qm]) (wr := [(qm_name, eJ G 14 qm_name_c), (qm_text, eI G 64 x14), (qm, .inr (10, [.int 0, .ref qm_tape, .int qm_taped, .int qm_size, .int qm_limit, .int qm_to, .int qm_from, .int qm_kind, .int qm_number, .int qm_sign, .int qm_fault, .int qm_place, .long qm_word, .int qm_told, .ref qm_now, .ref qm_read, .ref qm_kept, .ref qm_snaps, .ref qm_aside, .ref qm_name, .ref qm_readName, .ref qm_keptName, .ref qm_isKept, .ref qm_onces, .int qm_snapMany, .ref qm_order, .ref qm_ordered, .int qm_orderMany, .int qm_orderMost, .int qm_passing, .int qm_movedWho, .int qm_scratched, .ref qm_text, .int x13, .int qm_seed, .ref qm_line, .ref qm_written, .int qm_lineMany, .int qm_hasWritten, .ref qm_node, .int qm_nodes, .int qm_onesMany, .int qm_within, .int qm_top])), (qm_now, eI G 339 qm_now_c)]) C hw (s_X11_wordOfB 20) mwX11_wordOf kw1363 [] [0, 1, 2, 3] rfl rfl rfl rfl (by decide) rfl hl.1 rfl (Nat.le_of_ble_eq_true rfl) ⟨(Nat.le_of_ble_eq_true rfl), (Nat.le_of_ble_eq_true rfl)⟩ ⟨(Nat.le_of_ble_eq_true rfl), (Nat.le_of_ble_eq_true rfl)⟩ dX11_bill_79 (fun r50 u9 H locs hp9 hw => ?_)
        obtain ⟨x51, rfl, rfl, hf52⟩ := hp9
        have hw : Wd G s A [(qm_name, eJ G 14 qm_name_c), (qm_text, eI G 64 x14), (qm, .inr (10, [.int 0, .ref qm_tape, .int qm_taped, .int qm_size, .int qm_limit, .int qm_to, .int qm_from, .int qm_kind, .int qm_number, .int qm_sign, .int qm_fault, .int qm_place, .long qm_word, .int qm_told, .ref qm_now, .ref qm_read, .ref qm_kept, .ref qm_snaps, .ref qm_aside, .ref qm_name, .ref qm_readName, .ref qm_keptName, .ref qm_isKept, .ref qm_onces, .int qm_snapMany, .ref qm_order, .ref qm_ordered, .int qm_orderMany, .int qm_orderMost, .int qm_passing, .int qm_movedWho, .int qm_scratched, .ref qm_text, .int x13, .int qm_seed, .ref qm_line, .ref qm_written, .int qm_lineMany, .int qm_hasWritten, .ref qm_node, .int qm_nodes, .int qm_onesMany, .int qm_within, .int qm_top])), (qm_now, eI G 339 qm_now_c)] H _ := hw
        refine x_callvV (As := [.long r50]) (rest := []) (wr := [(qm_name, eJ G 14 qm_name_c), (qm_now, eI G 339 qm_now_c)]) C hw (s_X11_writeNext_7 qm r50 0 qm_tape qm_taped qm_size qm_limit qm_to qm_from qm_kind qm_number qm_sign qm_fault qm_place qm_word qm_told qm_now qm_read qm_kept qm_snaps qm_aside qm_name qm_readName qm_keptName qm_isKept qm_onces qm_snapMany qm_order qm_ordered qm_orderMany qm_orderMost qm_passing qm_movedWho qm_scratched qm_text x13 qm_seed qm_line qm_written qm_lineMany qm_hasWritten qm_node qm_nodes qm_onesMany qm_within qm_top x14 (by omega) (by omega) (by omega)) mwX11_writeNext kw1679 [2, 1] [0, 3] rfl rfl rfl rfl (by decide) 0 rfl rfl rfl rfl hl.1 rfl (Nat.le_of_ble_eq_true rfl) ⟨(Nat.le_of_ble_eq_true rfl), (Nat.le_of_ble_eq_true rfl)⟩ ⟨(Nat.le_of_ble_eq_true rfl), (Nat.le_of_ble_eq_true rfl)⟩ dX11_bill_82 (fun  u9 H locs hp9 hw => ?_)
        obtain ⟨x53, x54, rfl, hf55, hf56⟩ := hp9
        have hw : Wd G s A [(qm_name, eJ G 14 qm_name_c), (qm_now, eI G 339 qm_now_c), (qm, .inr (10, [.int 0, .ref qm_tape, .int qm_taped, .int qm_size, .int qm_limit, .int qm_to, .int qm_from, .int qm_kind, .int qm_number, .int qm_sign, .int qm_fault, .int qm_place, .long qm_word, .int qm_told, .ref qm_now, .ref qm_read, .ref qm_kept, .ref qm_snaps, .ref qm_aside, .ref qm_name, .ref qm_readName, .ref qm_keptName, .ref qm_isKept, .ref qm_onces, .int qm_snapMany, .ref qm_order, .ref qm_ordered, .int qm_orderMany, .int qm_orderMost, .int qm_passing, .int qm_movedWho, .int qm_scratched, .ref qm_text, .int x53, .int qm_seed, .ref qm_line, .ref qm_written, .int qm_lineMany, .int qm_hasWritten, .ref qm_node, .int qm_nodes, .int qm_onesMany, .int qm_within, .int qm_top])), (qm_text, eI G 64 x54)] H _ := hw
        refine lv_aload_n C.1 C.2.1 dX11_bill_85 rfl (lv_at hl 0 rfl) ?_
        refine x_get C hw iwX11 10 rfl 2 rfl 33 (by decide) kw1226 rfl dX11_bill_86 ?_
        have hw := hw.sub (w' := [(qm, .inr (10, [.int 0, .ref qm_tape, .int qm_taped, .int qm_size, .int qm_limit, .int qm_to, .int qm_from, .int qm_kind, .int qm_number, .int qm_sign, .int qm_fault, .int qm_place, .long qm_word, .int qm_told, .ref qm_now, .ref qm_read, .ref qm_kept, .ref qm_snaps, .ref qm_aside, .ref qm_name, .ref qm_readName, .ref qm_keptName, .ref qm_isKept, .ref qm_onces, .int qm_snapMany, .ref qm_order, .ref qm_ordered, .int qm_orderMany, .int qm_orderMost, .int qm_passing, .int qm_movedWho, .int qm_scratched, .ref qm_text, .int x53, .int qm_seed, .ref qm_line, .ref qm_written, .int qm_lineMany, .int qm_hasWritten, .ref qm_node, .int qm_nodes, .int qm_onesMany, .int qm_within, .int qm_top])), (qm_now, eI G 339 qm_now_c), (qm_name, eJ G 14 qm_name_c), (qm_text, eI G 64 x54)]) [2, 1, 0, 3] rfl rfl
        exact x_retiQ hQ B hw ⟨x53, x54, x53, rfl, rfl, (by omega), (by omega)⟩ (Nat.le_of_ble_eq_true rfl) (Nat.le_of_ble_eq_true rfl) dX11_bill_89
    · skip
      have hw : Wd G s A [(qm_name, eJ G 14 qm_name_c), (qm_text, eI G 64 x14), (qm, .inr (10, [.int 0, .ref qm_tape, .int qm_taped, .int qm_size, .int qm_limit, .int qm_to, .int qm_from, .int qm_kind, .int qm_number, .int qm_sign, .int qm_fault, .int qm_place, .long qm_word, .int qm_told, .ref qm_now, .ref qm_read, .ref qm_kept, .ref qm_snaps, .ref qm_aside, .ref qm_name, .ref qm_readName, .ref qm_keptName, .ref qm_isKept, .ref qm_onces, .int qm_snapMany, .ref qm_order, .ref qm_ordered, .int qm_orderMany, .int qm_orderMost, .int qm_passing, .int qm_movedWho, .int qm_scratched, .ref qm_text, .int x13, .int qm_seed, .ref qm_line, .ref qm_written, .int qm_lineMany, .int qm_hasWritten, .ref qm_node, .int qm_nodes, .int qm_onesMany, .int qm_within, .int qm_top])), (qm_now, eI G 339 qm_now_c)] H _ := hw
      refine lv_if_eq (tgt := 68) C.1 C.2.1 dX11_bill_51 (by decide) (fun h9 => absurd h9 (by decide)) (fun _ => ?_)
      refine lv_aload_n C.1 C.2.1 dX11_bill_54 rfl (lv_at hl 0 rfl) ?_
      refine lv_bipush (v := 19) C.1 C.2.1 dX11_bill_55 (by decide) ?_
      refine x_calllS (As := [.int 19]) (rest := [.ref qm]) (wr := [(qm_name, eJ G 14 qm_name_c), (qm_text, eI G 64 x14), (qm, .inr (10, [.int 0, .ref qm_tape, .int qm_taped, .int qm_size, .int qm_limit, .int qm_to, .int qm_from, .int qm_kind, .int qm_number, .int qm_sign, .int qm_fault, .int qm_place, .long qm_word, .int qm_told, .ref qm_now, .ref qm_read, .ref qm_kept, .ref qm_snaps, .ref qm_aside, .ref qm_name, .ref qm_readName, .ref qm_keptName, .ref qm_isKept, .ref qm_onces, .int qm_snapMany, .ref qm_order, .ref qm_ordered, .int qm_orderMany, .int qm_orderMost, .int qm_passing, .int qm_movedWho, .int qm_scratched, .ref qm_text, .int x13, .int qm_seed, .ref qm_line, .ref qm_written, .int qm_lineMany, .int qm_hasWritten, .ref qm_node, .int qm_nodes, .int qm_onesMany, .int qm_within, .int qm_top])), (qm_now, eI G 339 qm_now_c)]) C hw (s_X11_wordOfB 19) mwX11_wordOf kw1363 [] [0, 1, 2, 3] rfl rfl rfl rfl (by decide) rfl hl.1 rfl (Nat.le_of_ble_eq_true rfl) ⟨(Nat.le_of_ble_eq_true rfl), (Nat.le_of_ble_eq_true rfl)⟩ ⟨(Nat.le_of_ble_eq_true rfl), (Nat.le_of_ble_eq_true rfl)⟩ dX11_bill_57 (fun r57 u9 H locs hp9 hw => ?_)
      obtain ⟨x58, rfl, rfl, hf59⟩ := hp9
      have hw : Wd G s A [(qm_name, eJ G 14 qm_name_c), (qm_text, eI G 64 x14), (qm, .inr (10, [.int 0, .ref qm_tape, .int qm_taped, .int qm_size, .int qm_limit, .int qm_to, .int qm_from, .int qm_kind, .int qm_number, .int qm_sign, .int qm_fault, .int qm_place, .long qm_word, .int qm_told, .ref qm_now, .ref qm_read, .ref qm_kept, .ref qm_snaps, .ref qm_aside, .ref qm_name, .ref qm_readName, .ref qm_keptName, .ref qm_isKept, .ref qm_onces, .int qm_snapMany, .ref qm_order, .ref qm_ordered, .int qm_orderMany, .int qm_orderMost, .int qm_passing, .int qm_movedWho, .int qm_scratched, .ref qm_text, .int x13, .int qm_seed, .ref qm_line, .ref qm_written, .int qm_lineMany, .int qm_hasWritten, .ref qm_node, .int qm_nodes, .int qm_onesMany, .int qm_within, .int qm_top])), (qm_now, eI G 339 qm_now_c)] H _ := hw
      refine x_callvV (As := [.long r57]) (rest := []) (wr := [(qm_name, eJ G 14 qm_name_c), (qm_now, eI G 339 qm_now_c)]) C hw (s_X11_writeNext_7 qm r57 0 qm_tape qm_taped qm_size qm_limit qm_to qm_from qm_kind qm_number qm_sign qm_fault qm_place qm_word qm_told qm_now qm_read qm_kept qm_snaps qm_aside qm_name qm_readName qm_keptName qm_isKept qm_onces qm_snapMany qm_order qm_ordered qm_orderMany qm_orderMost qm_passing qm_movedWho qm_scratched qm_text x13 qm_seed qm_line qm_written qm_lineMany qm_hasWritten qm_node qm_nodes qm_onesMany qm_within qm_top x14 (by omega) (by omega) (by omega)) mwX11_writeNext kw1679 [2, 1] [0, 3] rfl rfl rfl rfl (by decide) 0 rfl rfl rfl rfl hl.1 rfl (Nat.le_of_ble_eq_true rfl) ⟨(Nat.le_of_ble_eq_true rfl), (Nat.le_of_ble_eq_true rfl)⟩ ⟨(Nat.le_of_ble_eq_true rfl), (Nat.le_of_ble_eq_true rfl)⟩ dX11_bill_60 (fun  u9 H locs hp9 hw => ?_)
      obtain ⟨x60, x61, rfl, hf62, hf63⟩ := hp9
      have hw : Wd G s A [(qm_name, eJ G 14 qm_name_c), (qm_now, eI G 339 qm_now_c), (qm, .inr (10, [.int 0, .ref qm_tape, .int qm_taped, .int qm_size, .int qm_limit, .int qm_to, .int qm_from, .int qm_kind, .int qm_number, .int qm_sign, .int qm_fault, .int qm_place, .long qm_word, .int qm_told, .ref qm_now, .ref qm_read, .ref qm_kept, .ref qm_snaps, .ref qm_aside, .ref qm_name, .ref qm_readName, .ref qm_keptName, .ref qm_isKept, .ref qm_onces, .int qm_snapMany, .ref qm_order, .ref qm_ordered, .int qm_orderMany, .int qm_orderMost, .int qm_passing, .int qm_movedWho, .int qm_scratched, .ref qm_text, .int x60, .int qm_seed, .ref qm_line, .ref qm_written, .int qm_lineMany, .int qm_hasWritten, .ref qm_node, .int qm_nodes, .int qm_onesMany, .int qm_within, .int qm_top])), (qm_text, eI G 64 x61)] H _ := hw
      refine lv_aload_n C.1 C.2.1 dX11_bill_63 rfl (lv_at hl 0 rfl) ?_
      refine x_get C hw iwX11 10 rfl 2 rfl 33 (by decide) kw1226 rfl dX11_bill_64 ?_
      have hw := hw.sub (w' := [(qm, .inr (10, [.int 0, .ref qm_tape, .int qm_taped, .int qm_size, .int qm_limit, .int qm_to, .int qm_from, .int qm_kind, .int qm_number, .int qm_sign, .int qm_fault, .int qm_place, .long qm_word, .int qm_told, .ref qm_now, .ref qm_read, .ref qm_kept, .ref qm_snaps, .ref qm_aside, .ref qm_name, .ref qm_readName, .ref qm_keptName, .ref qm_isKept, .ref qm_onces, .int qm_snapMany, .ref qm_order, .ref qm_ordered, .int qm_orderMany, .int qm_orderMost, .int qm_passing, .int qm_movedWho, .int qm_scratched, .ref qm_text, .int x60, .int qm_seed, .ref qm_line, .ref qm_written, .int qm_lineMany, .int qm_hasWritten, .ref qm_node, .int qm_nodes, .int qm_onesMany, .int qm_within, .int qm_top])), (qm_now, eI G 339 qm_now_c), (qm_name, eJ G 14 qm_name_c), (qm_text, eI G 64 x61)]) [2, 1, 0, 3] rfl rfl
      exact x_retiQ hQ B hw ⟨x60, x61, x60, rfl, rfl, (by omega), (by omega)⟩ (Nat.le_of_ble_eq_true rfl) (Nat.le_of_ble_eq_true rfl) dX11_bill_67
theorem dX11_byteAt_0 : decode cX11_byteAt 0 = .ok (.aload_n 0, 1) := by decide +kernel
theorem dX11_byteAt_1 : decode cX11_byteAt 1 = .ok (.iconst 0, 1) := by decide +kernel
theorem dX11_byteAt_2 : decode cX11_byteAt 2 = .ok (.putfield 1, 3) := by decide +kernel
theorem dX11_byteAt_5 : decode cX11_byteAt 5 = .ok (.iload_n 1, 1) := by decide +kernel
theorem dX11_byteAt_6 : decode cX11_byteAt 6 = .ok (.iconst 0, 1) := by decide +kernel
theorem dX11_byteAt_7 : decode cX11_byteAt 7 = .ok (.aload_n 0, 1) := by decide +kernel
theorem dX11_byteAt_8 : decode cX11_byteAt 8 = .ok (.getfield 333, 3) := by decide +kernel
theorem dX11_byteAt_11 : decode cX11_byteAt 11 = .ok (.iconst 1, 1) := by decide +kernel
theorem dX11_byteAt_12 : decode cX11_byteAt 12 = .ok (.isub, 1) := by decide +kernel
theorem dX11_byteAt_13 : decode cX11_byteAt 13 = .ok (.invokestatic 75, 3) := by decide +kernel
theorem dX11_byteAt_16 : decode cX11_byteAt 16 = .ok (.ifCond .eq 12, 3) := by decide +kernel
theorem dX11_byteAt_28 : decode cX11_byteAt 28 = .ok (.iconst (-1), 1) := by decide +kernel
theorem dX11_byteAt_29 : decode cX11_byteAt 29 = .ok (.ireturn, 1) := by decide +kernel
theorem dX11_byteAt_19 : decode cX11_byteAt 19 = .ok (.aload_n 0, 1) := by decide +kernel
theorem dX11_byteAt_20 : decode cX11_byteAt 20 = .ok (.getfield 142, 3) := by decide +kernel
theorem dX11_byteAt_23 : decode cX11_byteAt 23 = .ok (.iload_n 1, 1) := by decide +kernel
theorem dX11_byteAt_24 : decode cX11_byteAt 24 = .ok (.iaload, 1) := by decide +kernel
theorem dX11_byteAt_25 : decode cX11_byteAt 25 = .ok (.goto 4, 3) := by decide +kernel
set_option maxHeartbeats 4000000 in
set_option maxRecDepth 100000 in
theorem s_X11_byteAt {l : Launch} {G : Gc} (qm : Nat) (a1 : Int32) (qm_thrown : Int32) (qm_tape : Nat) (qm_taped : Int32) (qm_size : Int32) (qm_limit : Int32) (qm_to : Int32) (qm_from : Int32) (qm_kind : Int32) (qm_number : Int32) (qm_sign : Int32) (qm_fault : Int32) (qm_place : Int32) (qm_word : Int64) (qm_told : Int32) (qm_now : Nat) (qm_read : Nat) (qm_kept : Nat) (qm_snaps : Nat) (qm_aside : Nat) (qm_name : Nat) (qm_readName : Nat) (qm_keptName : Nat) (qm_isKept : Nat) (qm_onces : Nat) (qm_snapMany : Int32) (qm_order : Nat) (qm_ordered : Nat) (qm_orderMany : Int32) (qm_orderMost : Int32) (qm_passing : Int32) (qm_movedWho : Int32) (qm_scratched : Int32) (qm_text : Nat) (qm_texts : Int32) (qm_seed : Int32) (qm_line : Nat) (qm_written : Nat) (qm_lineMany : Int32) (qm_hasWritten : Int32) (qm_node : Nat) (qm_nodes : Int32) (qm_onesMany : Int32) (qm_within : Int32) (qm_top : Int32) (qm_text_c : Nat → Int32) (hi_qm_texts : 0 ≤ qm_texts.toInt ∧ qm_texts.toInt ≤ 64) : Ci l yX11_byteAt cX11_byteAt 2 (some .int) 1 0 0 G [.ref qm, .int a1] [(qm, .inr (10, [.int qm_thrown, .ref qm_tape, .int qm_taped, .int qm_size, .int qm_limit, .int qm_to, .int qm_from, .int qm_kind, .int qm_number, .int qm_sign, .int qm_fault, .int qm_place, .long qm_word, .int qm_told, .ref qm_now, .ref qm_read, .ref qm_kept, .ref qm_snaps, .ref qm_aside, .ref qm_name, .ref qm_readName, .ref qm_keptName, .ref qm_isKept, .ref qm_onces, .int qm_snapMany, .ref qm_order, .ref qm_ordered, .int qm_orderMany, .int qm_orderMost, .int qm_passing, .int qm_movedWho, .int qm_scratched, .ref qm_text, .int qm_texts, .int qm_seed, .ref qm_line, .ref qm_written, .int qm_lineMany, .int qm_hasWritten, .ref qm_node, .int qm_nodes, .int qm_onesMany, .int qm_within, .int qm_top])), (qm_text, eI G 64 qm_text_c)] (fun (r9 : Int32) (u9 : va_W) => ∃ (r_x : Int32), r9 = r_x ∧ u9 = [(qm, .inr (10, [.int 0, .ref qm_tape, .int qm_taped, .int qm_size, .int qm_limit, .int qm_to, .int qm_from, .int qm_kind, .int qm_number, .int qm_sign, .int qm_fault, .int qm_place, .long qm_word, .int qm_told, .ref qm_now, .ref qm_read, .ref qm_kept, .ref qm_snaps, .ref qm_aside, .ref qm_name, .ref qm_readName, .ref qm_keptName, .ref qm_isKept, .ref qm_onces, .int qm_snapMany, .ref qm_order, .ref qm_ordered, .int qm_orderMany, .int qm_orderMost, .int qm_passing, .int qm_movedWho, .int qm_scratched, .ref qm_text, .int qm_texts, .int qm_seed, .ref qm_line, .ref qm_written, .int qm_lineMany, .int qm_hasWritten, .ref qm_node, .int qm_nodes, .int qm_onesMany, .int qm_within, .int qm_top])), (qm_text, eI G 64 qm_text_c)]) := by
  refine Ci.ofQ (by decide) (Nat.le_of_ble_eq_true rfl) ?_
  intro p e s m below meth c ls A args Q hQ B hw hl
  have C : CallFix p m c cX11_byteAt 2 s args gw "LanternStateModel" := B.1
  have hl : lv_has ls 2 [(0, .ref qm), (1, .int a1)] := hl
  refine lv_aload_n C.1 C.2.1 dX11_byteAt_0 rfl (lv_at hl 0 rfl) ?_
  refine lv_iconst (v := 0) C.1 C.2.1 dX11_byteAt_1 (by decide) ?_
  refine x_put (w' := [(qm, .inr (10, [.int 0, .ref qm_tape, .int qm_taped, .int qm_size, .int qm_limit, .int qm_to, .int qm_from, .int qm_kind, .int qm_number, .int qm_sign, .int qm_fault, .int qm_place, .long qm_word, .int qm_told, .ref qm_now, .ref qm_read, .ref qm_kept, .ref qm_snaps, .ref qm_aside, .ref qm_name, .ref qm_readName, .ref qm_keptName, .ref qm_isKept, .ref qm_onces, .int qm_snapMany, .ref qm_order, .ref qm_ordered, .int qm_orderMany, .int qm_orderMost, .int qm_passing, .int qm_movedWho, .int qm_scratched, .ref qm_text, .int qm_texts, .int qm_seed, .ref qm_line, .ref qm_written, .int qm_lineMany, .int qm_hasWritten, .ref qm_node, .int qm_nodes, .int qm_onesMany, .int qm_within, .int qm_top])), (qm_text, eI G 64 qm_text_c)]) C hw iwX11 tyX11_ok nmX11 10 rfl 0 rfl 0 (by decide) kw1193 rfl rfl rfl (Nat.le_of_ble_eq_true rfl) rfl dX11_byteAt_2 (fun H locs hw => ?_)
  refine lv_iload_n C.1 C.2.1 dX11_byteAt_5 rfl (lv_at hl 1 rfl) ?_
  refine lv_iconst (v := 0) C.1 C.2.1 dX11_byteAt_6 (by decide) ?_
  refine lv_aload_n C.1 C.2.1 dX11_byteAt_7 rfl (lv_at hl 0 rfl) ?_
  refine x_get C hw iwX11 10 rfl 0 rfl 33 (by decide) kw1226 rfl dX11_byteAt_8 ?_
  refine lv_iconst (v := 1) C.1 C.2.1 dX11_byteAt_11 (by decide) ?_
  refine lv_isub C.1 C.2.1 dX11_byteAt_12 (x_genP (fun z : Int32 => z.toInt = qm_texts.toInt - 1) (i_sub (X := qm_texts.toInt) (Y := 1) rfl rfl (by omega) (by omega)) (fun v1 hv1 => ?_))
  refine x_calliS (As := [.int a1, .int 0, .int v1]) (rest := []) (wr := [(qm, .inr (10, [.int 0, .ref qm_tape, .int qm_taped, .int qm_size, .int qm_limit, .int qm_to, .int qm_from, .int qm_kind, .int qm_number, .int qm_sign, .int qm_fault, .int qm_place, .long qm_word, .int qm_told, .ref qm_now, .ref qm_read, .ref qm_kept, .ref qm_snaps, .ref qm_aside, .ref qm_name, .ref qm_readName, .ref qm_keptName, .ref qm_isKept, .ref qm_onces, .int qm_snapMany, .ref qm_order, .ref qm_ordered, .int qm_orderMany, .int qm_orderMost, .int qm_passing, .int qm_movedWho, .int qm_scratched, .ref qm_text, .int qm_texts, .int qm_seed, .ref qm_line, .ref qm_written, .int qm_lineMany, .int qm_hasWritten, .ref qm_node, .int qm_nodes, .int qm_onesMany, .int qm_within, .int qm_top])), (qm_text, eI G 64 qm_text_c)]) C hw (s_X11_isIn a1 0 v1) mwX11_isIn kw1396 [] [0, 1] rfl rfl rfl rfl (by decide) rfl hl.1 rfl (Nat.le_of_ble_eq_true rfl) ⟨(Nat.le_of_ble_eq_true rfl), (Nat.le_of_ble_eq_true rfl)⟩ ⟨(Nat.le_of_ble_eq_true rfl), (Nat.le_of_ble_eq_true rfl)⟩ dX11_byteAt_13 (fun r2 u9 H locs hp9 hw => ?_)
  rcases hp9 with ⟨rfl, rfl, hf3⟩ | ⟨rfl, rfl, hf4, hf5⟩
  · skip
    have hw : Wd G s A [(qm, .inr (10, [.int 0, .ref qm_tape, .int qm_taped, .int qm_size, .int qm_limit, .int qm_to, .int qm_from, .int qm_kind, .int qm_number, .int qm_sign, .int qm_fault, .int qm_place, .long qm_word, .int qm_told, .ref qm_now, .ref qm_read, .ref qm_kept, .ref qm_snaps, .ref qm_aside, .ref qm_name, .ref qm_readName, .ref qm_keptName, .ref qm_isKept, .ref qm_onces, .int qm_snapMany, .ref qm_order, .ref qm_ordered, .int qm_orderMany, .int qm_orderMost, .int qm_passing, .int qm_movedWho, .int qm_scratched, .ref qm_text, .int qm_texts, .int qm_seed, .ref qm_line, .ref qm_written, .int qm_lineMany, .int qm_hasWritten, .ref qm_node, .int qm_nodes, .int qm_onesMany, .int qm_within, .int qm_top])), (qm_text, eI G 64 qm_text_c)] H _ := hw
    have hf3 : a1.toInt < 0 ∨ v1.toInt < a1.toInt := by first | exact hf3 | (have e0 : (0 : Int32).toInt = 0 := rfl; omega)
    refine lv_if_eq (tgt := 28) C.1 C.2.1 dX11_byteAt_16 (by decide) (fun _ => ?_) (fun h9 => absurd (by decide) h9)
    refine lv_iconst (v := (-1)) C.1 C.2.1 dX11_byteAt_28 (by decide) ?_
    exact x_retiQ hQ B hw ⟨(-1), rfl, rfl⟩ (Nat.le_of_ble_eq_true rfl) (Nat.le_of_ble_eq_true rfl) dX11_byteAt_29
  · skip
    have hw : Wd G s A [(qm, .inr (10, [.int 0, .ref qm_tape, .int qm_taped, .int qm_size, .int qm_limit, .int qm_to, .int qm_from, .int qm_kind, .int qm_number, .int qm_sign, .int qm_fault, .int qm_place, .long qm_word, .int qm_told, .ref qm_now, .ref qm_read, .ref qm_kept, .ref qm_snaps, .ref qm_aside, .ref qm_name, .ref qm_readName, .ref qm_keptName, .ref qm_isKept, .ref qm_onces, .int qm_snapMany, .ref qm_order, .ref qm_ordered, .int qm_orderMany, .int qm_orderMost, .int qm_passing, .int qm_movedWho, .int qm_scratched, .ref qm_text, .int qm_texts, .int qm_seed, .ref qm_line, .ref qm_written, .int qm_lineMany, .int qm_hasWritten, .ref qm_node, .int qm_nodes, .int qm_onesMany, .int qm_within, .int qm_top])), (qm_text, eI G 64 qm_text_c)] H _ := hw
    have hf4 : 0 ≤ a1.toInt := by first | exact hf4 | (have e0 : (0 : Int32).toInt = 0 := rfl; omega)
    refine lv_if_eq (tgt := 28) C.1 C.2.1 dX11_byteAt_16 (by decide) (fun h9 => absurd h9 (by decide)) (fun _ => ?_)
    refine lv_aload_n C.1 C.2.1 dX11_byteAt_19 rfl (lv_at hl 0 rfl) ?_
    refine x_get C hw iwX11 10 rfl 0 rfl 32 (by decide) kw1225 rfl dX11_byteAt_20 ?_
    refine lv_iload_n C.1 C.2.1 dX11_byteAt_23 rfl (lv_at hl 1 rfl) ?_
    refine x_iald (v := (qm_text_c a1.toNatClampNeg)) C hw 1 rfl (i_in (by omega) (by omega)) rfl dX11_byteAt_24 (x_gen (fun v6 => ?_))
    refine lv_goto (tgt := 29) C.1 C.2.1 dX11_byteAt_25 (by decide) ?_
    exact x_retiQ hQ B hw ⟨v6, rfl, rfl⟩ (Nat.le_of_ble_eq_true rfl) (Nat.le_of_ble_eq_true rfl) dX11_byteAt_29
