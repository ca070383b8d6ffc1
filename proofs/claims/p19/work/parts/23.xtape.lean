theorem dX9_at_0 : decode cX9_at 0 = .ok (.iload_n 1, 1) := by decide +kernel
theorem dX9_at_1 : decode cX9_at 1 = .ok (.ifCond .lt 31, 3) := by decide +kernel
theorem dX9_at_32 : decode cX9_at 32 = .ok (.iconst (-1), 1) := by decide +kernel
theorem dX9_at_33 : decode cX9_at 33 = .ok (.ireturn, 1) := by decide +kernel
theorem dX9_at_4 : decode cX9_at 4 = .ok (.iload_n 1, 1) := by decide +kernel
theorem dX9_at_5 : decode cX9_at 5 = .ok (.aload_n 0, 1) := by decide +kernel
theorem dX9_at_6 : decode cX9_at 6 = .ok (.getfield 33, 3) := by decide +kernel
theorem dX9_at_9 : decode cX9_at 9 = .ok (.if_icmp .ge 23, 3) := by decide +kernel
theorem dX9_at_12 : decode cX9_at 12 = .ok (.iload_n 1, 1) := by decide +kernel
theorem dX9_at_13 : decode cX9_at 13 = .ok (.sipush 940, 3) := by decide +kernel
theorem dX9_at_16 : decode cX9_at 16 = .ok (.if_icmp .ge 16, 3) := by decide +kernel
theorem dX9_at_19 : decode cX9_at 19 = .ok (.aload_n 0, 1) := by decide +kernel
theorem dX9_at_20 : decode cX9_at 20 = .ok (.getfield 15, 3) := by decide +kernel
theorem dX9_at_23 : decode cX9_at 23 = .ok (.iload_n 1, 1) := by decide +kernel
theorem dX9_at_24 : decode cX9_at 24 = .ok (.baload, 1) := by decide +kernel
theorem dX9_at_25 : decode cX9_at 25 = .ok (.sipush 255, 3) := by decide +kernel
theorem dX9_at_28 : decode cX9_at 28 = .ok (.iand, 1) := by decide +kernel
theorem dX9_at_29 : decode cX9_at 29 = .ok (.goto 4, 3) := by decide +kernel
set_option maxHeartbeats 4000000 in
set_option maxRecDepth 100000 in
theorem e_X9_at {l : Launch} {G : Gc} (qt : Nat) (a1 : Int32) (qt_keyCodes : Nat) (qt_bytes : Nat) (qt_size : Int32) (qt_most : Int32) (qt_from : Int32) (qt_kind : Int32) (qt_place : Int32) (qt_value : Int32) (qt_code : Int64) (qt_key : Int32) (qt_fault : Int32) (qt_faultPlace : Int32) (qt_bytes_c : Nat → Int32) (b : Int → Int) (hi_qt_size : 0 ≤ qt_size.toInt ∧ qt_size.toInt ≤ 940) (hr_0 : tbC b qt_bytes_c qt_size) : Ci l yX9_at cX9_at 2 (some .int) 0 0 0 G [.ref qt, .int a1] [(qt, .inr (8, [.ref qt_keyCodes, .ref qt_bytes, .int qt_size, .int qt_most, .int qt_from, .int qt_kind, .int qt_place, .int qt_value, .long qt_code, .int qt_key, .int qt_fault, .int qt_faultPlace])), (qt_bytes, eB G 940 qt_bytes_c)] (fun (r9 : Int32) (u9 : va_W) => ∃ (r_x : Int32), r9 = r_x ∧ u9 = [(qt, .inr (8, [.ref qt_keyCodes, .ref qt_bytes, .int qt_size, .int qt_most, .int qt_from, .int qt_kind, .int qt_place, .int qt_value, .long qt_code, .int qt_key, .int qt_fault, .int qt_faultPlace])), (qt_bytes, eB G 940 qt_bytes_c)] ∧ ((-1) ≤ r_x.toInt ∧ r_x.toInt ≤ 255) ∧ (0 ≤ a1.toInt ∧ a1.toInt < qt_size.toInt → r_x.toInt = b a1.toInt) ∧ ((a1.toInt < 0 ∨ qt_size.toInt ≤ a1.toInt) → r_x.toInt = -1)) := by
  refine Ci.ofQ (by decide) (Nat.le_of_ble_eq_true rfl) ?_
  intro p e s m below meth c ls A args Q hQ B hw hl
  have C : CallFix p m c cX9_at 2 s args gw "LanternState$Tape" := B.1
  have hl : lv_has ls 2 [(0, .ref qt), (1, .int a1)] := hl
  refine lv_iload_n C.1 C.2.1 dX9_at_0 rfl (lv_at hl 1 rfl) ?_
  refine lv_if_lt (tgt := 32) C.1 C.2.1 dX9_at_1 (by decide) (fun c1 => ?_) (fun c1 => ?_)
  · skip
    have c1 : a1.toInt < 0 := i_ltT (X := a1.toInt) (Y := 0) rfl rfl c1
    have bc1_a1 := i_bd a1
    refine lv_iconst (v := (-1)) C.1 C.2.1 dX9_at_32 (by decide) ?_
    exact x_retiQ hQ B hw ⟨(-1), rfl, rfl, (by decide), (fun h9 => absurd h9 (by omega)), (fun _ => rfl)⟩ (Nat.le_of_ble_eq_true rfl) (Nat.le_of_ble_eq_true rfl) dX9_at_33
  · skip
    have c1 : 0 ≤ a1.toInt := i_ltF (X := a1.toInt) (Y := 0) rfl rfl c1
    have bc1_a1 := i_bd a1
    refine lv_iload_n C.1 C.2.1 dX9_at_4 rfl (lv_at hl 1 rfl) ?_
    refine lv_aload_n C.1 C.2.1 dX9_at_5 rfl (lv_at hl 0 rfl) ?_
    refine x_get C hw iwX9 8 rfl 0 rfl 2 (by decide) kw91 rfl dX9_at_6 ?_
    refine lv_icmp_ge (tgt := 32) C.1 C.2.1 dX9_at_9 (by decide) (fun c2 => ?_) (fun c2 => ?_)
    · skip
      have c2 : qt_size.toInt ≤ a1.toInt := i_leT (X := qt_size.toInt) (Y := a1.toInt) rfl rfl c2
      have bc2_a1 := i_bd a1
      refine lv_iconst (v := (-1)) C.1 C.2.1 dX9_at_32 (by decide) ?_
      exact x_retiQ hQ B hw ⟨(-1), rfl, rfl, (by decide), (fun h9 => absurd h9 (by omega)), (fun _ => rfl)⟩ (Nat.le_of_ble_eq_true rfl) (Nat.le_of_ble_eq_true rfl) dX9_at_33
    · skip
      have c2 : a1.toInt < qt_size.toInt := i_leF (X := qt_size.toInt) (Y := a1.toInt) rfl rfl c2
      have bc2_a1 := i_bd a1
      refine lv_iload_n C.1 C.2.1 dX9_at_12 rfl (lv_at hl 1 rfl) ?_
      refine lv_sipush (v := 940) C.1 C.2.1 dX9_at_13 (by decide) ?_
      refine lv_icmp_ge (tgt := 32) C.1 C.2.1 dX9_at_16 (by decide) (fun c3 => ?_) (fun c3 => ?_)
      · skip
        have c3 : 940 ≤ a1.toInt := i_leT (X := 940) (Y := a1.toInt) rfl rfl c3
        exfalso; omega
      · skip
        have c3 : a1.toInt < 940 := i_leF (X := 940) (Y := a1.toInt) rfl rfl c3
        refine lv_aload_n C.1 C.2.1 dX9_at_19 rfl (lv_at hl 0 rfl) ?_
        refine x_get C hw iwX9 8 rfl 0 rfl 1 (by decide) kw89 rfl dX9_at_20 ?_
        refine lv_iload_n C.1 C.2.1 dX9_at_23 rfl (lv_at hl 1 rfl) ?_
        refine x_bald (v := (qt_bytes_c a1.toNatClampNeg)) C hw 1 rfl (i_in (by omega) (by omega)) rfl dX9_at_24 (x_genP (fun z : Int32 => z = qt_bytes_c (a1.toInt.toNat) ∧ z.toInt = (qt_bytes_c (a1.toInt.toNat)).toInt) ⟨rfl, rfl⟩ (fun v4 hv4 => ?_))
        refine lv_sipush (v := 255) C.1 C.2.1 dX9_at_25 (by decide) ?_
        refine lv_iand C.1 C.2.1 dX9_at_28 (x_genP (fun z : Int32 => (0 ≤ z.toInt ∧ z.toInt ≤ 255) ∧ z = v4 &&& 255) ⟨i_andR 8 rfl (by decide) rfl, rfl⟩ (fun v5 hv5 => ?_))
        refine lv_goto (tgt := 33) C.1 C.2.1 dX9_at_29 (by decide) ?_
        exact x_retiQ hQ B hw ⟨v5, rfl, rfl, (by omega), (fun _ => by rw [hv5.2, hv4.1]; exact (hr_0 a1.toInt (by omega) (by omega)).symm), (fun h9 => absurd h9 (by omega))⟩ (Nat.le_of_ble_eq_true rfl) (Nat.le_of_ble_eq_true rfl) dX9_at_33
theorem dX9_readRun_0 : decode cX9_readRun 0 = .ok (.iconst 0, 1) := by decide +kernel
theorem dX9_readRun_1 : decode cX9_readRun 1 = .ok (.istore_n 1, 1) := by decide +kernel
theorem dX9_readRun_2 : decode cX9_readRun 2 = .ok (.iconst 0, 1) := by decide +kernel
theorem dX9_readRun_3 : decode cX9_readRun 3 = .ok (.istore_n 2, 1) := by decide +kernel
theorem dX9_readRun_4 : decode cX9_readRun 4 = .ok (.iconst 1, 1) := by decide +kernel
theorem dX9_readRun_5 : decode cX9_readRun 5 = .ok (.istore_n 3, 1) := by decide +kernel
theorem dX9_readRun_6 : decode cX9_readRun 6 = .ok (.iload_n 3, 1) := by decide +kernel
theorem dX9_readRun_7 : decode cX9_readRun 7 = .ok (.ifCond .eq 127, 3) := by decide +kernel
theorem dX9_readRun_10 : decode cX9_readRun 10 = .ok (.aload_n 0, 1) := by decide +kernel
theorem dX9_readRun_11 : decode cX9_readRun 11 = .ok (.getfield 50, 3) := by decide +kernel
theorem dX9_readRun_14 : decode cX9_readRun 14 = .ok (.aload_n 0, 1) := by decide +kernel
theorem dX9_readRun_15 : decode cX9_readRun 15 = .ok (.getfield 33, 3) := by decide +kernel
theorem dX9_readRun_18 : decode cX9_readRun 18 = .ok (.if_icmp .ge 116, 3) := by decide +kernel
theorem dX9_readRun_21 : decode cX9_readRun 21 = .ok (.aload_n 0, 1) := by decide +kernel
theorem dX9_readRun_22 : decode cX9_readRun 22 = .ok (.aload_n 0, 1) := by decide +kernel
theorem dX9_readRun_23 : decode cX9_readRun 23 = .ok (.getfield 50, 3) := by decide +kernel
theorem dX9_readRun_26 : decode cX9_readRun 26 = .ok (.invokevirtual 37, 3) := by decide +kernel
theorem mwX9_at : MwV yX9_at cX9_at 2 (some .int) 1 := ⟨⟨kw533, kw2, by decide +kernel⟩, kw532, kS1⟩
theorem dX9_readRun_29 : decode cX9_readRun 29 = .ok (.istore 4, 2) := by decide +kernel
theorem dX9_readRun_31 : decode cX9_readRun 31 = .ok (.iload 4, 2) := by decide +kernel
theorem dX9_readRun_33 : decode cX9_readRun 33 = .ok (.bipush 97, 2) := by decide +kernel
theorem dX9_readRun_35 : decode cX9_readRun 35 = .ok (.if_icmp .lt 47, 3) := by decide +kernel
theorem dX9_readRun_82 : decode cX9_readRun 82 = .ok (.iload 4, 2) := by decide +kernel
theorem dX9_readRun_84 : decode cX9_readRun 84 = .ok (.bipush 48, 2) := by decide +kernel
theorem dX9_readRun_86 : decode cX9_readRun 86 = .ok (.if_icmp .lt 43, 3) := by decide +kernel
theorem dX9_readRun_129 : decode cX9_readRun 129 = .ok (.iconst 0, 1) := by decide +kernel
theorem dX9_readRun_130 : decode cX9_readRun 130 = .ok (.istore_n 3, 1) := by decide +kernel
theorem dX9_readRun_131 : decode cX9_readRun 131 = .ok (.goto (-125), 3) := by decide +kernel
theorem dX9_readRun_89 : decode cX9_readRun 89 = .ok (.iload 4, 2) := by decide +kernel
theorem dX9_readRun_91 : decode cX9_readRun 91 = .ok (.bipush 57, 2) := by decide +kernel
theorem dX9_readRun_93 : decode cX9_readRun 93 = .ok (.if_icmp .gt 36, 3) := by decide +kernel
theorem dX9_readRun_96 : decode cX9_readRun 96 = .ok (.iinc 2 1, 3) := by decide +kernel
theorem dX9_readRun_99 : decode cX9_readRun 99 = .ok (.aload_n 0, 1) := by decide +kernel
theorem dX9_readRun_100 : decode cX9_readRun 100 = .ok (.aload_n 0, 1) := by decide +kernel
theorem dX9_readRun_101 : decode cX9_readRun 101 = .ok (.getfield 62, 3) := by decide +kernel
theorem dX9_readRun_104 : decode cX9_readRun 104 = .ok (.bipush 10, 2) := by decide +kernel
theorem dX9_readRun_106 : decode cX9_readRun 106 = .ok (.imul, 1) := by decide +kernel
theorem dX9_readRun_107 : decode cX9_readRun 107 = .ok (.iload 4, 2) := by decide +kernel
theorem dX9_readRun_109 : decode cX9_readRun 109 = .ok (.bipush 48, 2) := by decide +kernel
theorem dX9_readRun_111 : decode cX9_readRun 111 = .ok (.isub, 1) := by decide +kernel
theorem dX9_readRun_112 : decode cX9_readRun 112 = .ok (.iadd, 1) := by decide +kernel
theorem dX9_readRun_113 : decode cX9_readRun 113 = .ok (.putfield 62, 3) := by decide +kernel
theorem dX9_readRun_116 : decode cX9_readRun 116 = .ok (.aload_n 0, 1) := by decide +kernel
theorem dX9_readRun_117 : decode cX9_readRun 117 = .ok (.dup, 1) := by decide +kernel
theorem dX9_readRun_118 : decode cX9_readRun 118 = .ok (.getfield 50, 3) := by decide +kernel
theorem dX9_readRun_121 : decode cX9_readRun 121 = .ok (.iconst 1, 1) := by decide +kernel
theorem dX9_readRun_122 : decode cX9_readRun 122 = .ok (.iadd, 1) := by decide +kernel
theorem dX9_readRun_123 : decode cX9_readRun 123 = .ok (.putfield 50, 3) := by decide +kernel
theorem dX9_readRun_126 : decode cX9_readRun 126 = .ok (.goto 5, 3) := by decide +kernel
theorem dX9_readRun_38 : decode cX9_readRun 38 = .ok (.iload 4, 2) := by decide +kernel
theorem dX9_readRun_40 : decode cX9_readRun 40 = .ok (.bipush 122, 2) := by decide +kernel
theorem dX9_readRun_42 : decode cX9_readRun 42 = .ok (.if_icmp .gt 40, 3) := by decide +kernel
theorem dX9_readRun_45 : decode cX9_readRun 45 = .ok (.iinc 1 1, 3) := by decide +kernel
theorem dX9_readRun_48 : decode cX9_readRun 48 = .ok (.aload_n 0, 1) := by decide +kernel
theorem dX9_readRun_49 : decode cX9_readRun 49 = .ok (.aload_n 0, 1) := by decide +kernel
theorem dX9_readRun_50 : decode cX9_readRun 50 = .ok (.getfield 65, 3) := by decide +kernel
theorem dX9_readRun_53 : decode cX9_readRun 53 = .ok (.ldc2_w 31, 3) := by decide +kernel
theorem dX9_readRun_56 : decode cX9_readRun 56 = .ok (.lmul, 1) := by decide +kernel
theorem dX9_readRun_57 : decode cX9_readRun 57 = .ok (.iload 4, 2) := by decide +kernel
theorem dX9_readRun_59 : decode cX9_readRun 59 = .ok (.bipush 97, 2) := by decide +kernel
theorem dX9_readRun_61 : decode cX9_readRun 61 = .ok (.isub, 1) := by decide +kernel
theorem dX9_readRun_62 : decode cX9_readRun 62 = .ok (.iconst 1, 1) := by decide +kernel
theorem dX9_readRun_63 : decode cX9_readRun 63 = .ok (.iadd, 1) := by decide +kernel
theorem dX9_readRun_64 : decode cX9_readRun 64 = .ok (.i2l, 1) := by decide +kernel
theorem dX9_readRun_65 : decode cX9_readRun 65 = .ok (.ladd, 1) := by decide +kernel
theorem dX9_readRun_66 : decode cX9_readRun 66 = .ok (.putfield 65, 3) := by decide +kernel
theorem dX9_readRun_69 : decode cX9_readRun 69 = .ok (.aload_n 0, 1) := by decide +kernel
theorem dX9_readRun_70 : decode cX9_readRun 70 = .ok (.dup, 1) := by decide +kernel
theorem dX9_readRun_71 : decode cX9_readRun 71 = .ok (.getfield 50, 3) := by decide +kernel
theorem dX9_readRun_74 : decode cX9_readRun 74 = .ok (.iconst 1, 1) := by decide +kernel
theorem dX9_readRun_75 : decode cX9_readRun 75 = .ok (.iadd, 1) := by decide +kernel
theorem dX9_readRun_76 : decode cX9_readRun 76 = .ok (.putfield 50, 3) := by decide +kernel
theorem dX9_readRun_79 : decode cX9_readRun 79 = .ok (.goto 52, 3) := by decide +kernel
theorem dX9_readRun_134 : decode cX9_readRun 134 = .ok (.iload_n 2, 1) := by decide +kernel
theorem dX9_readRun_135 : decode cX9_readRun 135 = .ok (.ifCond .ne 59, 3) := by decide +kernel
theorem dX9_readRun_194 : decode cX9_readRun 194 = .ok (.aload_n 0, 1) := by decide +kernel
theorem dX9_readRun_195 : decode cX9_readRun 195 = .ok (.iload_n 1, 1) := by decide +kernel
theorem dX9_readRun_196 : decode cX9_readRun 196 = .ok (.ifCond .ne 12, 3) := by decide +kernel
theorem dX9_readRun_208 : decode cX9_readRun 208 = .ok (.iconst 1, 1) := by decide +kernel
theorem dX9_readRun_209 : decode cX9_readRun 209 = .ok (.putfield 72, 3) := by decide +kernel
theorem dX9_readRun_212 : decode cX9_readRun 212 = .ok (.return_, 1) := by decide +kernel
theorem dX9_readRun_199 : decode cX9_readRun 199 = .ok (.iload_n 2, 1) := by decide +kernel
theorem dX9_readRun_200 : decode cX9_readRun 200 = .ok (.iconst 3, 1) := by decide +kernel
theorem dX9_readRun_201 : decode cX9_readRun 201 = .ok (.if_icmp .gt 7, 3) := by decide +kernel
theorem dX9_readRun_204 : decode cX9_readRun 204 = .ok (.iconst 4, 1) := by decide +kernel
theorem dX9_readRun_205 : decode cX9_readRun 205 = .ok (.goto 4, 3) := by decide +kernel
theorem dX9_readRun_138 : decode cX9_readRun 138 = .ok (.iload_n 1, 1) := by decide +kernel
theorem dX9_readRun_139 : decode cX9_readRun 139 = .ok (.bipush 7, 2) := by decide +kernel
theorem dX9_readRun_141 : decode cX9_readRun 141 = .ok (.if_icmp .gt 53, 3) := by decide +kernel
theorem dX9_readRun_144 : decode cX9_readRun 144 = .ok (.aload_n 0, 1) := by decide +kernel
theorem dX9_readRun_145 : decode cX9_readRun 145 = .ok (.iconst 2, 1) := by decide +kernel
theorem dX9_readRun_146 : decode cX9_readRun 146 = .ok (.putfield 72, 3) := by decide +kernel
theorem dX9_readRun_149 : decode cX9_readRun 149 = .ok (.iconst 0, 1) := by decide +kernel
theorem dX9_readRun_150 : decode cX9_readRun 150 = .ok (.istore 4, 2) := by decide +kernel
theorem dX9_readRun_152 : decode cX9_readRun 152 = .ok (.iload 4, 2) := by decide +kernel
theorem dX9_readRun_154 : decode cX9_readRun 154 = .ok (.bipush 27, 2) := by decide +kernel
theorem dX9_readRun_156 : decode cX9_readRun 156 = .ok (.if_icmp .ge 35, 3) := by decide +kernel
theorem dX9_readRun_159 : decode cX9_readRun 159 = .ok (.aload_n 0, 1) := by decide +kernel
theorem dX9_readRun_160 : decode cX9_readRun 160 = .ok (.getfield 9, 3) := by decide +kernel
theorem dX9_readRun_163 : decode cX9_readRun 163 = .ok (.iload 4, 2) := by decide +kernel
theorem dX9_readRun_165 : decode cX9_readRun 165 = .ok (.laload, 1) := by decide +kernel
theorem dX9_readRun_166 : decode cX9_readRun 166 = .ok (.aload_n 0, 1) := by decide +kernel
theorem dX9_readRun_167 : decode cX9_readRun 167 = .ok (.getfield 65, 3) := by decide +kernel
theorem dX9_readRun_170 : decode cX9_readRun 170 = .ok (.lcmp, 1) := by decide +kernel
theorem dX9_readRun_171 : decode cX9_readRun 171 = .ok (.ifCond .ne 14, 3) := by decide +kernel
theorem dX9_readRun_185 : decode cX9_readRun 185 = .ok (.iinc 4 1, 3) := by decide +kernel
theorem dX9_readRun_188 : decode cX9_readRun 188 = .ok (.goto (-36), 3) := by decide +kernel
theorem dX9_readRun_174 : decode cX9_readRun 174 = .ok (.aload_n 0, 1) := by decide +kernel
theorem dX9_readRun_175 : decode cX9_readRun 175 = .ok (.iconst 3, 1) := by decide +kernel
theorem dX9_readRun_176 : decode cX9_readRun 176 = .ok (.putfield 72, 3) := by decide +kernel
theorem dX9_readRun_179 : decode cX9_readRun 179 = .ok (.aload_n 0, 1) := by decide +kernel
theorem dX9_readRun_180 : decode cX9_readRun 180 = .ok (.iload 4, 2) := by decide +kernel
theorem dX9_readRun_182 : decode cX9_readRun 182 = .ok (.putfield 69, 3) := by decide +kernel
theorem dX9_readRun_191 : decode cX9_readRun 191 = .ok (.goto 21, 3) := by decide +kernel
set_option maxHeartbeats 4000000 in
set_option maxRecDepth 100000 in
theorem e_X9_readRun {l : Launch} {G : Gc} (qt : Nat) (qt_keyCodes : Nat) (qt_bytes : Nat) (qt_size : Int32) (qt_most : Int32) (qt_from : Int32) (qt_kind : Int32) (qt_place : Int32) (qt_fault : Int32) (qt_faultPlace : Int32) (qt_keyCodes_c : Nat → Int64) (qt_bytes_c : Nat → Int32) (b : Int → Int) (hi_qt_from : 0 ≤ qt_from.toInt ∧ qt_from.toInt ≤ 940) (hi_qt_most : 0 ≤ qt_most.toInt ∧ qt_most.toInt ≤ 900) (hi_qt_size : 0 ≤ qt_size.toInt ∧ qt_size.toInt ≤ 940) (hr_0 : tbC b qt_bytes_c qt_size) (hr_1 : kcI qt_keyCodes_c) : Cv l yX9_readRun cX9_readRun 5 1 0 0 G [.ref qt] [(qt, .inr (8, [.ref qt_keyCodes, .ref qt_bytes, .int qt_size, .int qt_most, .int qt_from, .int qt_kind, .int qt_place, .int 0, .long 0, .int (-1), .int qt_fault, .int qt_faultPlace])), (qt_keyCodes, eJ G 27 qt_keyCodes_c), (qt_bytes, eB G 940 qt_bytes_c)] (fun (u9 : va_W) => ∃ (x0_qt_from : Int32) (x1_qt_kind : Int32) (x2_0 : Int32) (x3_0 : Int64) (x4_qt : Int32), u9 = [(qt, .inr (8, [.ref qt_keyCodes, .ref qt_bytes, .int qt_size, .int qt_most, .int x0_qt_from, .int x1_qt_kind, .int qt_place, .int x2_0, .long x3_0, .int x4_qt, .int qt_fault, .int qt_faultPlace])), (qt_keyCodes, eJ G 27 qt_keyCodes_c), (qt_bytes, eB G 940 qt_bytes_c)] ∧ (0 ≤ x0_qt_from.toInt ∧ x0_qt_from.toInt ≤ 940) ∧ (1 ≤ x1_qt_kind.toInt ∧ x1_qt_kind.toInt ≤ 4) ∧ ((-1) ≤ x4_qt.toInt ∧ x4_qt.toInt ≤ 33) ∧ (x0_qt_from.toInt = sc (wdB b) qt_size.toInt qt_from.toInt) ∧ (((cD b qt_from.toInt (sc (wdB b) qt_size.toInt qt_from.toInt - qt_from.toInt).toNat = 0 ∧ cL b qt_from.toInt (sc (wdB b) qt_size.toInt qt_from.toInt - qt_from.toInt).toNat ≤ 7) ∧ x3_0.toInt = cw b qt_from.toInt (sc (wdB b) qt_size.toInt qt_from.toInt - qt_from.toInt).toNat ∧ x4_qt.toInt = kyF (fun k => (qt_keyCodes_c k).toInt) x3_0.toInt 27 ∧ ((x4_qt.toInt = -1 ∧ x1_qt_kind.toInt = 2) ∨ (0 ≤ x4_qt.toInt ∧ x1_qt_kind.toInt = 3))) ∨ (¬ (cD b qt_from.toInt (sc (wdB b) qt_size.toInt qt_from.toInt - qt_from.toInt).toNat = 0 ∧ cL b qt_from.toInt (sc (wdB b) qt_size.toInt qt_from.toInt - qt_from.toInt).toNat ≤ 7) ∧ (cL b qt_from.toInt (sc (wdB b) qt_size.toInt qt_from.toInt - qt_from.toInt).toNat = 0 ∧ cD b qt_from.toInt (sc (wdB b) qt_size.toInt qt_from.toInt - qt_from.toInt).toNat ≤ 3) ∧ x2_0.toInt = dv b qt_from.toInt (sc (wdB b) qt_size.toInt qt_from.toInt - qt_from.toInt).toNat ∧ x1_qt_kind.toInt = 4 ∧ x4_qt.toInt = -1) ∨ (¬ (cD b qt_from.toInt (sc (wdB b) qt_size.toInt qt_from.toInt - qt_from.toInt).toNat = 0 ∧ cL b qt_from.toInt (sc (wdB b) qt_size.toInt qt_from.toInt - qt_from.toInt).toNat ≤ 7) ∧ ¬ (cL b qt_from.toInt (sc (wdB b) qt_size.toInt qt_from.toInt - qt_from.toInt).toNat = 0 ∧ cD b qt_from.toInt (sc (wdB b) qt_size.toInt qt_from.toInt - qt_from.toInt).toNat ≤ 3) ∧ x1_qt_kind.toInt = 1 ∧ x4_qt.toInt = -1))) := by
  refine Cv.ofQ (by decide) (Nat.le_of_ble_eq_true rfl) ?_
  intro p e s m below meth c ls A args Q hQ B hw hl
  have C : CallFix p m c cX9_readRun 5 s args gw "LanternState$Tape" := B.1
  have hl : lv_has ls 5 [(0, .ref qt)] := hl
  refine lv_iconst (v := 0) C.1 C.2.1 dX9_readRun_0 (by decide) ?_
  refine lv_istore_n (lv' := [(1, .int 0), (0, .ref qt)]) C.1 C.2.1 dX9_readRun_1 rfl hl (by decide) rfl (fun ls hl => ?_)
  refine lv_iconst (v := 0) C.1 C.2.1 dX9_readRun_2 (by decide) ?_
  refine lv_istore_n (lv' := [(2, .int 0), (1, .int 0), (0, .ref qt)]) C.1 C.2.1 dX9_readRun_3 rfl hl (by decide) rfl (fun ls hl => ?_)
  refine lv_iconst (v := 1) C.1 C.2.1 dX9_readRun_4 (by decide) ?_
  refine lv_istore_n (lv' := [(3, .int 1), (2, .int 0), (1, .int 0), (0, .ref qt)]) C.1 C.2.1 dX9_readRun_5 rfl hl (by decide) rfl (fun ls hl => ?_)
  have loopJ124 : ∀ (n9 : Nat) (j118 : Int32) (j119 : Int32) (j120 : Int32) (j121 : Int32) (j122 : Int32) (j123 : Int64), (2 * (2147483647 - j121.toInt) + j118.toInt).toNat < n9 → (0 ≤ j118.toInt ∧ j118.toInt ≤ 1) → (0 ≤ j119.toInt ∧ j119.toInt ≤ 941) → (0 ≤ j120.toInt ∧ j120.toInt ≤ 941) → (0 ≤ j121.toInt ∧ j121.toInt ≤ 940) → (sc (wdB b) qt_size.toInt j121.toInt = sc (wdB b) qt_size.toInt qt_from.toInt) → (qt_from.toInt ≤ j121.toInt ∧ (qt_from.toInt ≤ qt_size.toInt → j121.toInt ≤ qt_size.toInt)) → (j120.toInt = cL b qt_from.toInt (j121.toInt - qt_from.toInt).toNat) → (j119.toInt = cD b qt_from.toInt (j121.toInt - qt_from.toInt).toNat) → (j120.toInt + j119.toInt = j121.toInt - qt_from.toInt) → (j120.toInt ≤ 7 → j119.toInt = 0 → j123.toInt = cw b qt_from.toInt (j121.toInt - qt_from.toInt).toNat) → (j119.toInt ≤ 3 → j120.toInt = 0 → j122.toInt = dv b qt_from.toInt (j121.toInt - qt_from.toInt).toNat) → (j118.toInt = 0 → j121.toInt < qt_size.toInt → ¬ ((97 ≤ b j121.toInt ∧ b j121.toInt ≤ 122) ∨ (48 ≤ b j121.toInt ∧ b j121.toInt ≤ 57))) → ∀ (H : Heap) (locs : List Loc) (ls : Array Slot), Wd G s A [(qt, .inr (8, [.ref qt_keyCodes, .ref qt_bytes, .int qt_size, .int qt_most, .int j121, .int qt_kind, .int qt_place, .int j122, .long j123, .int (-1), .int qt_fault, .int qt_faultPlace])), (qt_keyCodes, eJ G 27 qt_keyCodes_c), (qt_bytes, eB G 940 qt_bytes_c)] H locs → lv_has ls 5 [(3, .int j118), (2, .int j119), (1, .int j120), (0, .ref qt)] → W p l e (rmD 1 0 0) s m args below meth c H locs 0 0 Q (F0 m 6 ls []) := by
    intro n9
    induction n9 with
    | zero => intro j118 j119 j120 j121 j122 j123 h9; exact absurd h9 (Nat.not_lt_zero _)
    | succ n9 ihJ124 =>
      intro j118 j119 j120 j121 j122 j123 h9J124 hJ124_0 hJ124_1 hJ124_2 hJ124_3 hJ124_4 hJ124_5 hJ124_6 hJ124_7 hJ124_8 hJ124_9 hJ124_10 hJ124_11 H locs ls hw hl
      have hbj121 := i_bd j121
      have hbd := cLD_bd b qt_from.toInt (j121.toInt - qt_from.toInt).toNat
      refine lv_iload_n C.1 C.2.1 dX9_readRun_6 rfl (lv_at hl 0 rfl) ?_
      refine lv_if_eq (tgt := 134) C.1 C.2.1 dX9_readRun_7 (by decide) (fun c157 => ?_) (fun c157 => ?_)
      · skip
        have c157 : j118.toInt = 0 := i_eqT (X := j118.toInt) (Y := 0) rfl rfl c157
        have hQ9 : sc (wdB b) qt_size.toInt qt_from.toInt = j121.toInt := (show sc (wdB b) qt_size.toInt j121.toInt = sc (wdB b) qt_size.toInt qt_from.toInt by assumption).symm.trans (sc_stop (fun h9 => wdB_f (by omega)))
        refine lv_iload_n C.1 C.2.1 dX9_readRun_134 rfl (lv_at hl 1 rfl) ?_
        refine lv_if_ne (tgt := 194) C.1 C.2.1 dX9_readRun_135 (by decide) (fun c158 => ?_) (fun c158 => ?_)
        · skip
          have c158 : j119.toInt ≠ 0 := i_eqF (X := j119.toInt) (Y := 0) rfl rfl c158
          refine lv_aload_n C.1 C.2.1 dX9_readRun_194 rfl (lv_at hl 3 rfl) ?_
          refine lv_iload_n C.1 C.2.1 dX9_readRun_195 rfl (lv_at hl 2 rfl) ?_
          refine lv_if_ne (tgt := 208) C.1 C.2.1 dX9_readRun_196 (by decide) (fun c159 => ?_) (fun c159 => ?_)
          · skip
            have c159 : j120.toInt ≠ 0 := i_eqF (X := j120.toInt) (Y := 0) rfl rfl c159
            refine lv_iconst (v := 1) C.1 C.2.1 dX9_readRun_208 (by decide) ?_
            refine x_put (w' := [(qt, .inr (8, [.ref qt_keyCodes, .ref qt_bytes, .int qt_size, .int qt_most, .int j121, .int 1, .int qt_place, .int j122, .long j123, .int (-1), .int qt_fault, .int qt_faultPlace])), (qt_keyCodes, eJ G 27 qt_keyCodes_c), (qt_bytes, eB G 940 qt_bytes_c)]) C hw iwX9 tyX9_ok nmX9 8 rfl 0 rfl 5 (by decide) kw97 rfl rfl rfl (Nat.le_of_ble_eq_true rfl) rfl dX9_readRun_209 (fun H locs hw => ?_)
            exact x_retvQ hQ B hw ⟨j121, 1, j122, j123, (-1), rfl, (by omega), (by decide), (by decide), (by have e0 : ((-1) : Int32).toInt = (-1) := rfl; have e1 : (1 : Int32).toInt = 1 := rfl; first | omega), (by have e0 : ((-1) : Int32).toInt = (-1) := rfl; have e1 : (1 : Int32).toInt = 1 := rfl; rw [hQ9]; first | omega | (refine Or.inl ⟨by omega, by omega, ?_, by omega⟩; rw [show (27 : Nat) = (0).toNat by omega]; assumption))⟩ (Nat.le_of_ble_eq_true rfl) (Nat.le_of_ble_eq_true rfl) dX9_readRun_212
          · skip
            have c159 : j120.toInt = 0 := i_eqT (X := j120.toInt) (Y := 0) rfl rfl c159
            refine lv_iload_n C.1 C.2.1 dX9_readRun_199 rfl (lv_at hl 1 rfl) ?_
            refine lv_iconst (v := 3) C.1 C.2.1 dX9_readRun_200 (by decide) ?_
            refine lv_icmp_gt (tgt := 208) C.1 C.2.1 dX9_readRun_201 (by decide) (fun c160 => ?_) (fun c160 => ?_)
            · skip
              have c160 : 3 < j119.toInt := i_ltT (X := 3) (Y := j119.toInt) rfl rfl c160
              refine lv_iconst (v := 1) C.1 C.2.1 dX9_readRun_208 (by decide) ?_
              refine x_put (w' := [(qt, .inr (8, [.ref qt_keyCodes, .ref qt_bytes, .int qt_size, .int qt_most, .int j121, .int 1, .int qt_place, .int j122, .long j123, .int (-1), .int qt_fault, .int qt_faultPlace])), (qt_keyCodes, eJ G 27 qt_keyCodes_c), (qt_bytes, eB G 940 qt_bytes_c)]) C hw iwX9 tyX9_ok nmX9 8 rfl 0 rfl 5 (by decide) kw97 rfl rfl rfl (Nat.le_of_ble_eq_true rfl) rfl dX9_readRun_209 (fun H locs hw => ?_)
              exact x_retvQ hQ B hw ⟨j121, 1, j122, j123, (-1), rfl, (by omega), (by decide), (by decide), (by have e0 : ((-1) : Int32).toInt = (-1) := rfl; have e1 : (1 : Int32).toInt = 1 := rfl; first | omega), (by have e0 : ((-1) : Int32).toInt = (-1) := rfl; have e1 : (1 : Int32).toInt = 1 := rfl; rw [hQ9]; first | omega | (refine Or.inl ⟨by omega, by omega, ?_, by omega⟩; rw [show (27 : Nat) = (0).toNat by omega]; assumption))⟩ (Nat.le_of_ble_eq_true rfl) (Nat.le_of_ble_eq_true rfl) dX9_readRun_212
            · skip
              have c160 : j119.toInt ≤ 3 := i_ltF (X := 3) (Y := j119.toInt) rfl rfl c160
              refine lv_iconst (v := 4) C.1 C.2.1 dX9_readRun_204 (by decide) ?_
              refine lv_goto (tgt := 209) C.1 C.2.1 dX9_readRun_205 (by decide) ?_
              refine x_put (w' := [(qt, .inr (8, [.ref qt_keyCodes, .ref qt_bytes, .int qt_size, .int qt_most, .int j121, .int 4, .int qt_place, .int j122, .long j123, .int (-1), .int qt_fault, .int qt_faultPlace])), (qt_keyCodes, eJ G 27 qt_keyCodes_c), (qt_bytes, eB G 940 qt_bytes_c)]) C hw iwX9 tyX9_ok nmX9 8 rfl 0 rfl 5 (by decide) kw97 rfl rfl rfl (Nat.le_of_ble_eq_true rfl) rfl dX9_readRun_209 (fun H locs hw => ?_)
              exact x_retvQ hQ B hw ⟨j121, 4, j122, j123, (-1), rfl, (by omega), (by decide), (by decide), (by have e0 : ((-1) : Int32).toInt = (-1) := rfl; have e1 : (4 : Int32).toInt = 4 := rfl; first | omega), (by have e0 : ((-1) : Int32).toInt = (-1) := rfl; have e1 : (4 : Int32).toInt = 4 := rfl; rw [hQ9]; first | omega | (refine Or.inl ⟨by omega, by omega, ?_, by omega⟩; rw [show (27 : Nat) = (0).toNat by omega]; assumption))⟩ (Nat.le_of_ble_eq_true rfl) (Nat.le_of_ble_eq_true rfl) dX9_readRun_212
        · skip
          have c158 : j119.toInt = 0 := i_eqT (X := j119.toInt) (Y := 0) rfl rfl c158
          refine lv_iload_n C.1 C.2.1 dX9_readRun_138 rfl (lv_at hl 2 rfl) ?_
          refine lv_bipush (v := 7) C.1 C.2.1 dX9_readRun_139 (by decide) ?_
          refine lv_icmp_gt (tgt := 194) C.1 C.2.1 dX9_readRun_141 (by decide) (fun c161 => ?_) (fun c161 => ?_)
          · skip
            have c161 : 7 < j120.toInt := i_ltT (X := 7) (Y := j120.toInt) rfl rfl c161
            refine lv_aload_n C.1 C.2.1 dX9_readRun_194 rfl (lv_at hl 3 rfl) ?_
            refine lv_iload_n C.1 C.2.1 dX9_readRun_195 rfl (lv_at hl 2 rfl) ?_
            refine lv_if_ne (tgt := 208) C.1 C.2.1 dX9_readRun_196 (by decide) (fun c162 => ?_) (fun c162 => ?_)
            · skip
              have c162 : j120.toInt ≠ 0 := i_eqF (X := j120.toInt) (Y := 0) rfl rfl c162
              refine lv_iconst (v := 1) C.1 C.2.1 dX9_readRun_208 (by decide) ?_
              refine x_put (w' := [(qt, .inr (8, [.ref qt_keyCodes, .ref qt_bytes, .int qt_size, .int qt_most, .int j121, .int 1, .int qt_place, .int j122, .long j123, .int (-1), .int qt_fault, .int qt_faultPlace])), (qt_keyCodes, eJ G 27 qt_keyCodes_c), (qt_bytes, eB G 940 qt_bytes_c)]) C hw iwX9 tyX9_ok nmX9 8 rfl 0 rfl 5 (by decide) kw97 rfl rfl rfl (Nat.le_of_ble_eq_true rfl) rfl dX9_readRun_209 (fun H locs hw => ?_)
              exact x_retvQ hQ B hw ⟨j121, 1, j122, j123, (-1), rfl, (by omega), (by decide), (by decide), (by have e0 : ((-1) : Int32).toInt = (-1) := rfl; have e1 : (1 : Int32).toInt = 1 := rfl; first | omega), (by have e0 : ((-1) : Int32).toInt = (-1) := rfl; have e1 : (1 : Int32).toInt = 1 := rfl; rw [hQ9]; first | omega | (refine Or.inl ⟨by omega, by omega, ?_, by omega⟩; rw [show (27 : Nat) = (0).toNat by omega]; assumption))⟩ (Nat.le_of_ble_eq_true rfl) (Nat.le_of_ble_eq_true rfl) dX9_readRun_212
            · skip
              have c162 : j120.toInt = 0 := i_eqT (X := j120.toInt) (Y := 0) rfl rfl c162
              exfalso; omega
          · skip
            have c161 : j120.toInt ≤ 7 := i_ltF (X := 7) (Y := j120.toInt) rfl rfl c161
            refine lv_aload_n C.1 C.2.1 dX9_readRun_144 rfl (lv_at hl 3 rfl) ?_
            refine lv_iconst (v := 2) C.1 C.2.1 dX9_readRun_145 (by decide) ?_
            refine x_put (w' := [(qt, .inr (8, [.ref qt_keyCodes, .ref qt_bytes, .int qt_size, .int qt_most, .int j121, .int 2, .int qt_place, .int j122, .long j123, .int (-1), .int qt_fault, .int qt_faultPlace])), (qt_keyCodes, eJ G 27 qt_keyCodes_c), (qt_bytes, eB G 940 qt_bytes_c)]) C hw iwX9 tyX9_ok nmX9 8 rfl 0 rfl 5 (by decide) kw97 rfl rfl rfl (Nat.le_of_ble_eq_true rfl) rfl dX9_readRun_146 (fun H locs hw => ?_)
            refine lv_iconst (v := 0) C.1 C.2.1 dX9_readRun_149 (by decide) ?_
            refine lv_istore (lv' := [(4, .int 0), (3, .int j118), (2, .int j119), (1, .int j120), (0, .ref qt)]) C.1 C.2.1 dX9_readRun_150 hl (by decide) rfl (fun ls hl => ?_)
            have loopJ340 : ∀ (n9 : Nat) (j337 : Int32) (j338 : Int32) (j339 : Int32), (2147483647 - j337.toInt).toNat < n9 → (2 ≤ j338.toInt ∧ j338.toInt ≤ 3) → (j339.toInt = kyF (fun k => (qt_keyCodes_c k).toInt) j123.toInt (j337.toInt).toNat) → ((j339.toInt = -1 ∧ j338.toInt = 2) ∨ (0 ≤ j339.toInt ∧ j338.toInt = 3)) → (0 ≤ j337.toInt ∧ j337.toInt ≤ 27) → ((-1) ≤ j339.toInt ∧ j339.toInt ≤ 33) → ∀ (H : Heap) (locs : List Loc) (ls : Array Slot), Wd G s A [(qt, .inr (8, [.ref qt_keyCodes, .ref qt_bytes, .int qt_size, .int qt_most, .int j121, .int j338, .int qt_place, .int j122, .long j123, .int j339, .int qt_fault, .int qt_faultPlace])), (qt_keyCodes, eJ G 27 qt_keyCodes_c), (qt_bytes, eB G 940 qt_bytes_c)] H locs → lv_has ls 5 [(4, .int j337), (0, .ref qt)] → W p l e (rmD 1 0 0) s m args below meth c H locs 0 0 Q (F0 m 152 ls []) := by
              intro n9
              induction n9 with
              | zero => intro j337 j338 j339 h9; exact absurd h9 (Nat.not_lt_zero _)
              | succ n9 ihJ340 =>
                intro j337 j338 j339 h9J340 hJ340_0 hJ340_1 hJ340_2 hJ340_3 hJ340_4 H locs ls hw hl
                have hbj337 := i_bd j337
                refine lv_iload C.1 C.2.1 dX9_readRun_152 (lv_at hl 0 rfl) ?_
                refine lv_bipush (v := 27) C.1 C.2.1 dX9_readRun_154 (by decide) ?_
                refine lv_icmp_ge (tgt := 191) C.1 C.2.1 dX9_readRun_156 (by decide) (fun c353 => ?_) (fun c353 => ?_)
                · skip
                  have c353 : 27 ≤ j337.toInt := i_leT (X := 27) (Y := j337.toInt) rfl rfl c353
                  refine lv_goto (tgt := 212) C.1 C.2.1 dX9_readRun_191 (by decide) ?_
                  exact x_retvQ hQ B hw ⟨j121, j338, j122, j123, j339, rfl, (by omega), (by omega), (by omega), (by first | omega), (by rw [hQ9]; first | omega | (refine Or.inl ⟨by omega, by omega, ?_, by omega⟩; rw [show (27 : Nat) = (j337.toInt).toNat by omega]; assumption))⟩ (Nat.le_of_ble_eq_true rfl) (Nat.le_of_ble_eq_true rfl) dX9_readRun_212
                · skip
                  have c353 : j337.toInt < 27 := i_leF (X := 27) (Y := j337.toInt) rfl rfl c353
                  refine lv_aload_n C.1 C.2.1 dX9_readRun_159 rfl (lv_at hl 1 rfl) ?_
                  refine x_get C hw iwX9 8 rfl 0 rfl 0 (by decide) kw88 rfl dX9_readRun_160 ?_
                  refine lv_iload C.1 C.2.1 dX9_readRun_163 (lv_at hl 0 rfl) ?_
                  refine x_lald (v := (qt_keyCodes_c j337.toNatClampNeg)) C hw 1 rfl (i_in (by omega) (by omega)) rfl dX9_readRun_165 (x_genlP (fun z : Int64 => z = qt_keyCodes_c (j337.toInt.toNat) ∧ z.toInt = (qt_keyCodes_c (j337.toInt.toNat)).toInt) ⟨rfl, rfl⟩ (fun v354 hv354 => ?_))
                  refine lv_aload_n C.1 C.2.1 dX9_readRun_166 rfl (lv_at hl 1 rfl) ?_
                  refine x_get C hw iwX9 8 rfl 0 rfl 8 (by decide) kw105 rfl dX9_readRun_167 ?_
                  refine W.lcmp C.1 C.2.1 dX9_readRun_170 (x_genP (fun z : Int32 => z.toInt = 0 ↔ v354.toInt = j123.toInt) (l_cmp0 rfl rfl) (fun v355 hv355 => ?_))
                  refine lv_if_ne (tgt := 185) C.1 C.2.1 dX9_readRun_171 (by decide) (fun c356 => ?_) (fun c356 => ?_)
                  · skip
                    have c356 : v355.toInt ≠ 0 := i_eqF (X := v355.toInt) (Y := 0) rfl rfl c356
                    have bc356_v355 := i_bd v355
                    have d357 : v354.toInt ≠ j123.toInt := fun q9 => c356 (hv355.mpr q9)
                    clear hv355
                    obtain ⟨v359, ev359⟩ : ∃ z : Int32, j337 + 1 = z := ⟨_, rfl⟩
                    have hv359 : v359.toInt = j337.toInt + 1 := by rw [← ev359]; exact i_add rfl rfl (by omega) (by omega)
                    refine lv_iinc (v := v359) (lv' := [(4, .int v359), (0, .ref qt)]) C.1 C.2.1 dX9_readRun_185 hl (k := 0) rfl ev359 (by decide) rfl (fun ls hl => ?_)
                    refine lv_goto (tgt := 152) C.1 C.2.1 dX9_readRun_188 (by decide) ?_
                    exact ihJ340 v359 j338 j339 (by omega) (by omega) (by first | assumption | omega | (rw [show (v359.toInt).toNat = (j337.toInt).toNat + 1 by omega, kyF_s]; rw [if_neg (show ¬ (qt_keyCodes_c (j337.toInt).toNat).toInt = j123.toInt by omega)]; assumption)) (by first | assumption | omega) (by omega) (by omega) _ _ _ hw (lv_sub hl [0, 1] rfl)
                  · skip
                    have c356 : v355.toInt = 0 := i_eqT (X := v355.toInt) (Y := 0) rfl rfl c356
                    have bc356_v355 := i_bd v355
                    have d358 : v354.toInt = j123.toInt := hv355.mp c356
                    clear hv355
                    refine lv_aload_n C.1 C.2.1 dX9_readRun_174 rfl (lv_at hl 1 rfl) ?_
                    refine lv_iconst (v := 3) C.1 C.2.1 dX9_readRun_175 (by decide) ?_
                    refine x_put (w' := [(qt, .inr (8, [.ref qt_keyCodes, .ref qt_bytes, .int qt_size, .int qt_most, .int j121, .int 3, .int qt_place, .int j122, .long j123, .int j339, .int qt_fault, .int qt_faultPlace])), (qt_keyCodes, eJ G 27 qt_keyCodes_c), (qt_bytes, eB G 940 qt_bytes_c)]) C hw iwX9 tyX9_ok nmX9 8 rfl 0 rfl 5 (by decide) kw97 rfl rfl rfl (Nat.le_of_ble_eq_true rfl) rfl dX9_readRun_176 (fun H locs hw => ?_)
                    refine lv_aload_n C.1 C.2.1 dX9_readRun_179 rfl (lv_at hl 1 rfl) ?_
                    refine lv_iload C.1 C.2.1 dX9_readRun_180 (lv_at hl 0 rfl) ?_
                    refine x_put (w' := [(qt, .inr (8, [.ref qt_keyCodes, .ref qt_bytes, .int qt_size, .int qt_most, .int j121, .int 3, .int qt_place, .int j122, .long j123, .int j337, .int qt_fault, .int qt_faultPlace])), (qt_keyCodes, eJ G 27 qt_keyCodes_c), (qt_bytes, eB G 940 qt_bytes_c)]) C hw iwX9 tyX9_ok nmX9 8 rfl 0 rfl 9 (by decide) kw109 rfl rfl rfl (Nat.le_of_ble_eq_true rfl) rfl dX9_readRun_182 (fun H locs hw => ?_)
                    obtain ⟨v360, ev360⟩ : ∃ z : Int32, j337 + 1 = z := ⟨_, rfl⟩
                    have hv360 : v360.toInt = j337.toInt + 1 := by rw [← ev360]; exact i_add rfl rfl (by omega) (by omega)
                    refine lv_iinc (v := v360) (lv' := [(4, .int v360), (0, .ref qt)]) C.1 C.2.1 dX9_readRun_185 hl (k := 0) rfl ev360 (by decide) rfl (fun ls hl => ?_)
                    refine lv_goto (tgt := 152) C.1 C.2.1 dX9_readRun_188 (by decide) ?_
                    exact ihJ340 v360 3 j337 (by omega) (by decide) (by have e0 : (3 : Int32).toInt = 3 := rfl; first | assumption | omega | (rw [show (v360.toInt).toNat = (j337.toInt).toNat + 1 by omega, kyF_s]; rw [if_pos (show (qt_keyCodes_c (j337.toInt).toNat).toInt = j123.toInt by omega)]; omega)) (by have e0 : (3 : Int32).toInt = 3 := rfl; first | assumption | omega) (by omega) (by omega) _ _ _ hw (lv_sub hl [0, 1] rfl)
            exact loopJ340 _ 0 2 (-1) (Nat.lt_succ_self _) (by decide) (by have e0 : ((-1) : Int32).toInt = (-1) := rfl; have e1 : (0 : Int32).toInt = 0 := rfl; have e2 : (2 : Int32).toInt = 2 := rfl; first | assumption | omega | (rfl)) (by have e0 : ((-1) : Int32).toInt = (-1) := rfl; have e1 : (0 : Int32).toInt = 0 := rfl; have e2 : (2 : Int32).toInt = 2 := rfl; first | assumption | omega) (by decide) (by decide) _ _ _ hw (lv_sub hl [0, 4] rfl)
      · skip
        have c157 : j118.toInt ≠ 0 := i_eqF (X := j118.toInt) (Y := 0) rfl rfl c157
        refine lv_aload_n C.1 C.2.1 dX9_readRun_10 rfl (lv_at hl 3 rfl) ?_
        refine x_get C hw iwX9 8 rfl 0 rfl 4 (by decide) kw93 rfl dX9_readRun_11 ?_
        refine lv_aload_n C.1 C.2.1 dX9_readRun_14 rfl (lv_at hl 3 rfl) ?_
        refine x_get C hw iwX9 8 rfl 0 rfl 2 (by decide) kw91 rfl dX9_readRun_15 ?_
        refine lv_icmp_ge (tgt := 134) C.1 C.2.1 dX9_readRun_18 (by decide) (fun c361 => ?_) (fun c361 => ?_)
        · skip
          have c361 : qt_size.toInt ≤ j121.toInt := i_leT (X := qt_size.toInt) (Y := j121.toInt) rfl rfl c361
          have hQ9 : sc (wdB b) qt_size.toInt qt_from.toInt = j121.toInt := (show sc (wdB b) qt_size.toInt j121.toInt = sc (wdB b) qt_size.toInt qt_from.toInt by assumption).symm.trans (sc_stop (fun h9 => wdB_f (by omega)))
          refine lv_iload_n C.1 C.2.1 dX9_readRun_134 rfl (lv_at hl 1 rfl) ?_
          refine lv_if_ne (tgt := 194) C.1 C.2.1 dX9_readRun_135 (by decide) (fun c362 => ?_) (fun c362 => ?_)
          · skip
            have c362 : j119.toInt ≠ 0 := i_eqF (X := j119.toInt) (Y := 0) rfl rfl c362
            refine lv_aload_n C.1 C.2.1 dX9_readRun_194 rfl (lv_at hl 3 rfl) ?_
            refine lv_iload_n C.1 C.2.1 dX9_readRun_195 rfl (lv_at hl 2 rfl) ?_
            refine lv_if_ne (tgt := 208) C.1 C.2.1 dX9_readRun_196 (by decide) (fun c363 => ?_) (fun c363 => ?_)
            · skip
              have c363 : j120.toInt ≠ 0 := i_eqF (X := j120.toInt) (Y := 0) rfl rfl c363
              refine lv_iconst (v := 1) C.1 C.2.1 dX9_readRun_208 (by decide) ?_
              refine x_put (w' := [(qt, .inr (8, [.ref qt_keyCodes, .ref qt_bytes, .int qt_size, .int qt_most, .int j121, .int 1, .int qt_place, .int j122, .long j123, .int (-1), .int qt_fault, .int qt_faultPlace])), (qt_keyCodes, eJ G 27 qt_keyCodes_c), (qt_bytes, eB G 940 qt_bytes_c)]) C hw iwX9 tyX9_ok nmX9 8 rfl 0 rfl 5 (by decide) kw97 rfl rfl rfl (Nat.le_of_ble_eq_true rfl) rfl dX9_readRun_209 (fun H locs hw => ?_)
              exact x_retvQ hQ B hw ⟨j121, 1, j122, j123, (-1), rfl, (by omega), (by decide), (by decide), (by have e0 : ((-1) : Int32).toInt = (-1) := rfl; have e1 : (1 : Int32).toInt = 1 := rfl; first | omega), (by have e0 : ((-1) : Int32).toInt = (-1) := rfl; have e1 : (1 : Int32).toInt = 1 := rfl; rw [hQ9]; first | omega | (refine Or.inl ⟨by omega, by omega, ?_, by omega⟩; rw [show (27 : Nat) = (0).toNat by omega]; assumption))⟩ (Nat.le_of_ble_eq_true rfl) (Nat.le_of_ble_eq_true rfl) dX9_readRun_212
            · skip
              have c363 : j120.toInt = 0 := i_eqT (X := j120.toInt) (Y := 0) rfl rfl c363
              refine lv_iload_n C.1 C.2.1 dX9_readRun_199 rfl (lv_at hl 1 rfl) ?_
              refine lv_iconst (v := 3) C.1 C.2.1 dX9_readRun_200 (by decide) ?_
              refine lv_icmp_gt (tgt := 208) C.1 C.2.1 dX9_readRun_201 (by decide) (fun c364 => ?_) (fun c364 => ?_)
              · skip
                have c364 : 3 < j119.toInt := i_ltT (X := 3) (Y := j119.toInt) rfl rfl c364
                refine lv_iconst (v := 1) C.1 C.2.1 dX9_readRun_208 (by decide) ?_
                refine x_put (w' := [(qt, .inr (8, [.ref qt_keyCodes, .ref qt_bytes, .int qt_size, .int qt_most, .int j121, .int 1, .int qt_place, .int j122, .long j123, .int (-1), .int qt_fault, .int qt_faultPlace])), (qt_keyCodes, eJ G 27 qt_keyCodes_c), (qt_bytes, eB G 940 qt_bytes_c)]) C hw iwX9 tyX9_ok nmX9 8 rfl 0 rfl 5 (by decide) kw97 rfl rfl rfl (Nat.le_of_ble_eq_true rfl) rfl dX9_readRun_209 (fun H locs hw => ?_)
                exact x_retvQ hQ B hw ⟨j121, 1, j122, j123, (-1), rfl, (by omega), (by decide), (by decide), (by have e0 : ((-1) : Int32).toInt = (-1) := rfl; have e1 : (1 : Int32).toInt = 1 := rfl; first | omega), (by have e0 : ((-1) : Int32).toInt = (-1) := rfl; have e1 : (1 : Int32).toInt = 1 := rfl; rw [hQ9]; first | omega | (refine Or.inl ⟨by omega, by omega, ?_, by omega⟩; rw [show (27 : Nat) = (0).toNat by omega]; assumption))⟩ (Nat.le_of_ble_eq_true rfl) (Nat.le_of_ble_eq_true rfl) dX9_readRun_212
              · skip
                have c364 : j119.toInt ≤ 3 := i_ltF (X := 3) (Y := j119.toInt) rfl rfl c364
                refine lv_iconst (v := 4) C.1 C.2.1 dX9_readRun_204 (by decide) ?_
                refine lv_goto (tgt := 209) C.1 C.2.1 dX9_readRun_205 (by decide) ?_
                refine x_put (w' := [(qt, .inr (8, [.ref qt_keyCodes, .ref qt_bytes, .int qt_size, .int qt_most, .int j121, .int 4, .int qt_place, .int j122, .long j123, .int (-1), .int qt_fault, .int qt_faultPlace])), (qt_keyCodes, eJ G 27 qt_keyCodes_c), (qt_bytes, eB G 940 qt_bytes_c)]) C hw iwX9 tyX9_ok nmX9 8 rfl 0 rfl 5 (by decide) kw97 rfl rfl rfl (Nat.le_of_ble_eq_true rfl) rfl dX9_readRun_209 (fun H locs hw => ?_)
                exact x_retvQ hQ B hw ⟨j121, 4, j122, j123, (-1), rfl, (by omega), (by decide), (by decide), (by have e0 : ((-1) : Int32).toInt = (-1) := rfl; have e1 : (4 : Int32).toInt = 4 := rfl; first | omega), (by have e0 : ((-1) : Int32).toInt = (-1) := rfl; have e1 : (4 : Int32).toInt = 4 := rfl; rw [hQ9]; first | omega | (refine Or.inl ⟨by omega, by omega, ?_, by omega⟩; rw [show (27 : Nat) = (0).toNat by omega]; assumption))⟩ (Nat.le_of_ble_eq_true rfl) (Nat.le_of_ble_eq_true rfl) dX9_readRun_212
          · skip
            have c362 : j119.toInt = 0 := i_eqT (X := j119.toInt) (Y := 0) rfl rfl c362
            refine lv_iload_n C.1 C.2.1 dX9_readRun_138 rfl (lv_at hl 2 rfl) ?_
            refine lv_bipush (v := 7) C.1 C.2.1 dX9_readRun_139 (by decide) ?_
            refine lv_icmp_gt (tgt := 194) C.1 C.2.1 dX9_readRun_141 (by decide) (fun c365 => ?_) (fun c365 => ?_)
            · skip
              have c365 : 7 < j120.toInt := i_ltT (X := 7) (Y := j120.toInt) rfl rfl c365
              refine lv_aload_n C.1 C.2.1 dX9_readRun_194 rfl (lv_at hl 3 rfl) ?_
              refine lv_iload_n C.1 C.2.1 dX9_readRun_195 rfl (lv_at hl 2 rfl) ?_
              refine lv_if_ne (tgt := 208) C.1 C.2.1 dX9_readRun_196 (by decide) (fun c366 => ?_) (fun c366 => ?_)
              · skip
                have c366 : j120.toInt ≠ 0 := i_eqF (X := j120.toInt) (Y := 0) rfl rfl c366
                refine lv_iconst (v := 1) C.1 C.2.1 dX9_readRun_208 (by decide) ?_
                refine x_put (w' := [(qt, .inr (8, [.ref qt_keyCodes, .ref qt_bytes, .int qt_size, .int qt_most, .int j121, .int 1, .int qt_place, .int j122, .long j123, .int (-1), .int qt_fault, .int qt_faultPlace])), (qt_keyCodes, eJ G 27 qt_keyCodes_c), (qt_bytes, eB G 940 qt_bytes_c)]) C hw iwX9 tyX9_ok nmX9 8 rfl 0 rfl 5 (by decide) kw97 rfl rfl rfl (Nat.le_of_ble_eq_true rfl) rfl dX9_readRun_209 (fun H locs hw => ?_)
                exact x_retvQ hQ B hw ⟨j121, 1, j122, j123, (-1), rfl, (by omega), (by decide), (by decide), (by have e0 : ((-1) : Int32).toInt = (-1) := rfl; have e1 : (1 : Int32).toInt = 1 := rfl; first | omega), (by have e0 : ((-1) : Int32).toInt = (-1) := rfl; have e1 : (1 : Int32).toInt = 1 := rfl; rw [hQ9]; first | omega | (refine Or.inl ⟨by omega, by omega, ?_, by omega⟩; rw [show (27 : Nat) = (0).toNat by omega]; assumption))⟩ (Nat.le_of_ble_eq_true rfl) (Nat.le_of_ble_eq_true rfl) dX9_readRun_212
              · skip
                have c366 : j120.toInt = 0 := i_eqT (X := j120.toInt) (Y := 0) rfl rfl c366
                exfalso; omega
            · skip
              have c365 : j120.toInt ≤ 7 := i_ltF (X := 7) (Y := j120.toInt) rfl rfl c365
              refine lv_aload_n C.1 C.2.1 dX9_readRun_144 rfl (lv_at hl 3 rfl) ?_
              refine lv_iconst (v := 2) C.1 C.2.1 dX9_readRun_145 (by decide) ?_
              refine x_put (w' := [(qt, .inr (8, [.ref qt_keyCodes, .ref qt_bytes, .int qt_size, .int qt_most, .int j121, .int 2, .int qt_place, .int j122, .long j123, .int (-1), .int qt_fault, .int qt_faultPlace])), (qt_keyCodes, eJ G 27 qt_keyCodes_c), (qt_bytes, eB G 940 qt_bytes_c)]) C hw iwX9 tyX9_ok nmX9 8 rfl 0 rfl 5 (by decide) kw97 rfl rfl rfl (Nat.le_of_ble_eq_true rfl) rfl dX9_readRun_146 (fun H locs hw => ?_)
              refine lv_iconst (v := 0) C.1 C.2.1 dX9_readRun_149 (by decide) ?_
              refine lv_istore (lv' := [(4, .int 0), (3, .int j118), (2, .int j119), (1, .int j120), (0, .ref qt)]) C.1 C.2.1 dX9_readRun_150 hl (by decide) rfl (fun ls hl => ?_)
              have loopJ544 : ∀ (n9 : Nat) (j541 : Int32) (j542 : Int32) (j543 : Int32), (2147483647 - j541.toInt).toNat < n9 → (2 ≤ j542.toInt ∧ j542.toInt ≤ 3) → (j543.toInt = kyF (fun k => (qt_keyCodes_c k).toInt) j123.toInt (j541.toInt).toNat) → ((j543.toInt = -1 ∧ j542.toInt = 2) ∨ (0 ≤ j543.toInt ∧ j542.toInt = 3)) → (0 ≤ j541.toInt ∧ j541.toInt ≤ 27) → ((-1) ≤ j543.toInt ∧ j543.toInt ≤ 33) → ∀ (H : Heap) (locs : List Loc) (ls : Array Slot), Wd G s A [(qt, .inr (8, [.ref qt_keyCodes, .ref qt_bytes, .int qt_size, .int qt_most, .int j121, .int j542, .int qt_place, .int j122, .long j123, .int j543, .int qt_fault, .int qt_faultPlace])), (qt_keyCodes, eJ G 27 qt_keyCodes_c), (qt_bytes, eB G 940 qt_bytes_c)] H locs → lv_has ls 5 [(4, .int j541), (0, .ref qt)] → W p l e (rmD 1 0 0) s m args below meth c H locs 0 0 Q (F0 m 152 ls []) := by
                intro n9
                induction n9 with
                | zero => intro j541 j542 j543 h9; exact absurd h9 (Nat.not_lt_zero _)
                | succ n9 ihJ544 =>
                  intro j541 j542 j543 h9J544 hJ544_0 hJ544_1 hJ544_2 hJ544_3 hJ544_4 H locs ls hw hl
                  have hbj541 := i_bd j541
                  refine lv_iload C.1 C.2.1 dX9_readRun_152 (lv_at hl 0 rfl) ?_
                  refine lv_bipush (v := 27) C.1 C.2.1 dX9_readRun_154 (by decide) ?_
                  refine lv_icmp_ge (tgt := 191) C.1 C.2.1 dX9_readRun_156 (by decide) (fun c557 => ?_) (fun c557 => ?_)
                  · skip
                    have c557 : 27 ≤ j541.toInt := i_leT (X := 27) (Y := j541.toInt) rfl rfl c557
                    refine lv_goto (tgt := 212) C.1 C.2.1 dX9_readRun_191 (by decide) ?_
                    exact x_retvQ hQ B hw ⟨j121, j542, j122, j123, j543, rfl, (by omega), (by omega), (by omega), (by first | omega), (by rw [hQ9]; first | omega | (refine Or.inl ⟨by omega, by omega, ?_, by omega⟩; rw [show (27 : Nat) = (j541.toInt).toNat by omega]; assumption))⟩ (Nat.le_of_ble_eq_true rfl) (Nat.le_of_ble_eq_true rfl) dX9_readRun_212
                  · skip
                    have c557 : j541.toInt < 27 := i_leF (X := 27) (Y := j541.toInt) rfl rfl c557
                    refine lv_aload_n C.1 C.2.1 dX9_readRun_159 rfl (lv_at hl 1 rfl) ?_
                    refine x_get C hw iwX9 8 rfl 0 rfl 0 (by decide) kw88 rfl dX9_readRun_160 ?_
                    refine lv_iload C.1 C.2.1 dX9_readRun_163 (lv_at hl 0 rfl) ?_
                    refine x_lald (v := (qt_keyCodes_c j541.toNatClampNeg)) C hw 1 rfl (i_in (by omega) (by omega)) rfl dX9_readRun_165 (x_genlP (fun z : Int64 => z = qt_keyCodes_c (j541.toInt.toNat) ∧ z.toInt = (qt_keyCodes_c (j541.toInt.toNat)).toInt) ⟨rfl, rfl⟩ (fun v558 hv558 => ?_))
                    refine lv_aload_n C.1 C.2.1 dX9_readRun_166 rfl (lv_at hl 1 rfl) ?_
                    refine x_get C hw iwX9 8 rfl 0 rfl 8 (by decide) kw105 rfl dX9_readRun_167 ?_
                    refine W.lcmp C.1 C.2.1 dX9_readRun_170 (x_genP (fun z : Int32 => z.toInt = 0 ↔ v558.toInt = j123.toInt) (l_cmp0 rfl rfl) (fun v559 hv559 => ?_))
                    refine lv_if_ne (tgt := 185) C.1 C.2.1 dX9_readRun_171 (by decide) (fun c560 => ?_) (fun c560 => ?_)
                    · skip
                      have c560 : v559.toInt ≠ 0 := i_eqF (X := v559.toInt) (Y := 0) rfl rfl c560
                      have bc560_v559 := i_bd v559
                      have d561 : v558.toInt ≠ j123.toInt := fun q9 => c560 (hv559.mpr q9)
                      clear hv559
                      obtain ⟨v563, ev563⟩ : ∃ z : Int32, j541 + 1 = z := ⟨_, rfl⟩
                      have hv563 : v563.toInt = j541.toInt + 1 := by rw [← ev563]; exact i_add rfl rfl (by omega) (by omega)
                      refine lv_iinc (v := v563) (lv' := [(4, .int v563), (0, .ref qt)]) C.1 C.2.1 dX9_readRun_185 hl (k := 0) rfl ev563 (by decide) rfl (fun ls hl => ?_)
                      refine lv_goto (tgt := 152) C.1 C.2.1 dX9_readRun_188 (by decide) ?_
                      exact ihJ544 v563 j542 j543 (by omega) (by omega) (by first | assumption | omega | (rw [show (v563.toInt).toNat = (j541.toInt).toNat + 1 by omega, kyF_s]; rw [if_neg (show ¬ (qt_keyCodes_c (j541.toInt).toNat).toInt = j123.toInt by omega)]; assumption)) (by first | assumption | omega) (by omega) (by omega) _ _ _ hw (lv_sub hl [0, 1] rfl)
                    · skip
                      have c560 : v559.toInt = 0 := i_eqT (X := v559.toInt) (Y := 0) rfl rfl c560
                      have bc560_v559 := i_bd v559
                      have d562 : v558.toInt = j123.toInt := hv559.mp c560
                      clear hv559
                      refine lv_aload_n C.1 C.2.1 dX9_readRun_174 rfl (lv_at hl 1 rfl) ?_
                      refine lv_iconst (v := 3) C.1 C.2.1 dX9_readRun_175 (by decide) ?_
                      refine x_put (w' := [(qt, .inr (8, [.ref qt_keyCodes, .ref qt_bytes, .int qt_size, .int qt_most, .int j121, .int 3, .int qt_place, .int j122, .long j123, .int j543, .int qt_fault, .int qt_faultPlace])), (qt_keyCodes, eJ G 27 qt_keyCodes_c), (qt_bytes, eB G 940 qt_bytes_c)]) C hw iwX9 tyX9_ok nmX9 8 rfl 0 rfl 5 (by decide) kw97 rfl rfl rfl (Nat.le_of_ble_eq_true rfl) rfl dX9_readRun_176 (fun H locs hw => ?_)
                      refine lv_aload_n C.1 C.2.1 dX9_readRun_179 rfl (lv_at hl 1 rfl) ?_
                      refine lv_iload C.1 C.2.1 dX9_readRun_180 (lv_at hl 0 rfl) ?_
                      refine x_put (w' := [(qt, .inr (8, [.ref qt_keyCodes, .ref qt_bytes, .int qt_size, .int qt_most, .int j121, .int 3, .int qt_place, .int j122, .long j123, .int j541, .int qt_fault, .int qt_faultPlace])), (qt_keyCodes, eJ G 27 qt_keyCodes_c), (qt_bytes, eB G 940 qt_bytes_c)]) C hw iwX9 tyX9_ok nmX9 8 rfl 0 rfl 9 (by decide) kw109 rfl rfl rfl (Nat.le_of_ble_eq_true rfl) rfl dX9_readRun_182 (fun H locs hw => ?_)
                      obtain ⟨v564, ev564⟩ : ∃ z : Int32, j541 + 1 = z := ⟨_, rfl⟩
                      have hv564 : v564.toInt = j541.toInt + 1 := by rw [← ev564]; exact i_add rfl rfl (by omega) (by omega)
                      refine lv_iinc (v := v564) (lv' := [(4, .int v564), (0, .ref qt)]) C.1 C.2.1 dX9_readRun_185 hl (k := 0) rfl ev564 (by decide) rfl (fun ls hl => ?_)
                      refine lv_goto (tgt := 152) C.1 C.2.1 dX9_readRun_188 (by decide) ?_
                      exact ihJ544 v564 3 j541 (by omega) (by decide) (by have e0 : (3 : Int32).toInt = 3 := rfl; first | assumption | omega | (rw [show (v564.toInt).toNat = (j541.toInt).toNat + 1 by omega, kyF_s]; rw [if_pos (show (qt_keyCodes_c (j541.toInt).toNat).toInt = j123.toInt by omega)]; omega)) (by have e0 : (3 : Int32).toInt = 3 := rfl; first | assumption | omega) (by omega) (by omega) _ _ _ hw (lv_sub hl [0, 1] rfl)
              exact loopJ544 _ 0 2 (-1) (Nat.lt_succ_self _) (by decide) (by have e0 : ((-1) : Int32).toInt = (-1) := rfl; have e1 : (0 : Int32).toInt = 0 := rfl; have e2 : (2 : Int32).toInt = 2 := rfl; first | assumption | omega | (rfl)) (by have e0 : ((-1) : Int32).toInt = (-1) := rfl; have e1 : (0 : Int32).toInt = 0 := rfl; have e2 : (2 : Int32).toInt = 2 := rfl; first | assumption | omega) (by decide) (by decide) _ _ _ hw (lv_sub hl [0, 4] rfl)
        · skip
          have c361 : j121.toInt < qt_size.toInt := i_leF (X := qt_size.toInt) (Y := j121.toInt) rfl rfl c361
          refine lv_aload_n C.1 C.2.1 dX9_readRun_21 rfl (lv_at hl 3 rfl) ?_
          refine lv_aload_n C.1 C.2.1 dX9_readRun_22 rfl (lv_at hl 3 rfl) ?_
          refine x_get C hw iwX9 8 rfl 0 rfl 4 (by decide) kw93 rfl dX9_readRun_23 ?_
          refine x_calliV (As := [.int j121]) (rest := []) (wr := [(qt_keyCodes, eJ G 27 qt_keyCodes_c)]) C hw (e_X9_at qt j121 qt_keyCodes qt_bytes qt_size qt_most j121 qt_kind qt_place j122 j123 (-1) qt_fault qt_faultPlace qt_bytes_c b (by omega) hr_0) mwX9_at kw530 [0, 2] [1] rfl rfl rfl rfl (by decide) 0 rfl rfl rfl rfl hl.1 rfl (Nat.le_of_ble_eq_true rfl) ⟨(Nat.le_of_ble_eq_true rfl), (Nat.le_of_ble_eq_true rfl)⟩ ⟨(Nat.le_of_ble_eq_true rfl), (Nat.le_of_ble_eq_true rfl)⟩ dX9_readRun_26 (fun r565 u9 H locs hp9 hw => ?_)
          obtain ⟨x566, rfl, rfl, hf567, hf568, hf569⟩ := hp9
          have hw : Wd G s A [(qt_keyCodes, eJ G 27 qt_keyCodes_c), (qt, .inr (8, [.ref qt_keyCodes, .ref qt_bytes, .int qt_size, .int qt_most, .int j121, .int qt_kind, .int qt_place, .int j122, .long j123, .int (-1), .int qt_fault, .int qt_faultPlace])), (qt_bytes, eB G 940 qt_bytes_c)] H _ := hw
          refine lv_istore (lv' := [(4, .int r565), (3, .int j118), (2, .int j119), (1, .int j120), (0, .ref qt)]) C.1 C.2.1 dX9_readRun_29 hl (by decide) rfl (fun ls hl => ?_)
          refine lv_iload C.1 C.2.1 dX9_readRun_31 (lv_at hl 0 rfl) ?_
          refine lv_bipush (v := 97) C.1 C.2.1 dX9_readRun_33 (by decide) ?_
          refine lv_icmp_lt (tgt := 82) C.1 C.2.1 dX9_readRun_35 (by decide) (fun c570 => ?_) (fun c570 => ?_)
          · skip
            have c570 : r565.toInt < 97 := i_ltT (X := r565.toInt) (Y := 97) rfl rfl c570
            refine lv_iload C.1 C.2.1 dX9_readRun_82 (lv_at hl 0 rfl) ?_
            refine lv_bipush (v := 48) C.1 C.2.1 dX9_readRun_84 (by decide) ?_
            refine lv_icmp_lt (tgt := 129) C.1 C.2.1 dX9_readRun_86 (by decide) (fun c571 => ?_) (fun c571 => ?_)
            · skip
              have c571 : r565.toInt < 48 := i_ltT (X := r565.toInt) (Y := 48) rfl rfl c571
              refine lv_iconst (v := 0) C.1 C.2.1 dX9_readRun_129 (by decide) ?_
              refine lv_istore_n (lv' := [(3, .int 0), (4, .int r565), (2, .int j119), (1, .int j120), (0, .ref qt)]) C.1 C.2.1 dX9_readRun_130 rfl hl (by decide) rfl (fun ls hl => ?_)
              refine lv_goto (tgt := 6) C.1 C.2.1 dX9_readRun_131 (by decide) ?_
              have hw := hw.sub (w' := [(qt, .inr (8, [.ref qt_keyCodes, .ref qt_bytes, .int qt_size, .int qt_most, .int j121, .int qt_kind, .int qt_place, .int j122, .long j123, .int (-1), .int qt_fault, .int qt_faultPlace])), (qt_keyCodes, eJ G 27 qt_keyCodes_c), (qt_bytes, eB G 940 qt_bytes_c)]) [1, 0, 2] rfl rfl
              exact ihJ124 0 j119 j120 j121 j122 j123 (by have e0 : (0 : Int32).toInt = 0 := rfl; omega) (by decide) (by omega) (by omega) (by omega) (by have e0 : (0 : Int32).toInt = 0 := rfl; first | assumption | omega | (rfl) | (exact absurd rfl id)) (by have e0 : (0 : Int32).toInt = 0 := rfl; first | assumption | omega) (by have e0 : (0 : Int32).toInt = 0 := rfl; first | assumption | omega | (rw [show (qt_from.toInt - qt_from.toInt).toNat = 0 by omega]; rfl) | (exact absurd rfl id)) (by have e0 : (0 : Int32).toInt = 0 := rfl; first | assumption | omega | (rw [show (qt_from.toInt - qt_from.toInt).toNat = 0 by omega]; rfl) | (exact absurd rfl id)) (by have e0 : (0 : Int32).toInt = 0 := rfl; first | assumption | omega) (by have e0 : (0 : Int32).toInt = 0 := rfl; first | assumption | omega | (intro _ _; rw [show (qt_from.toInt - qt_from.toInt).toNat = 0 by omega]; rfl) | (intro h7 h8; omega) | (exact absurd rfl id)) (by have e0 : (0 : Int32).toInt = 0 := rfl; first | assumption | omega | (intro _ _; rw [show (qt_from.toInt - qt_from.toInt).toNat = 0 by omega]; rfl) | (intro h7 h8; omega) | (exact absurd rfl id)) (by have e0 : (0 : Int32).toInt = 0 := rfl; first | assumption | omega | (intro h7; omega)) _ _ _ hw (lv_sub hl [0, 2, 3, 4] rfl)
            · skip
              have c571 : 48 ≤ r565.toInt := i_ltF (X := r565.toInt) (Y := 48) rfl rfl c571
              refine lv_iload C.1 C.2.1 dX9_readRun_89 (lv_at hl 0 rfl) ?_
              refine lv_bipush (v := 57) C.1 C.2.1 dX9_readRun_91 (by decide) ?_
              refine lv_icmp_gt (tgt := 129) C.1 C.2.1 dX9_readRun_93 (by decide) (fun c572 => ?_) (fun c572 => ?_)
              · skip
                have c572 : 57 < r565.toInt := i_ltT (X := 57) (Y := r565.toInt) rfl rfl c572
                refine lv_iconst (v := 0) C.1 C.2.1 dX9_readRun_129 (by decide) ?_
                refine lv_istore_n (lv' := [(3, .int 0), (4, .int r565), (2, .int j119), (1, .int j120), (0, .ref qt)]) C.1 C.2.1 dX9_readRun_130 rfl hl (by decide) rfl (fun ls hl => ?_)
                refine lv_goto (tgt := 6) C.1 C.2.1 dX9_readRun_131 (by decide) ?_
                have hw := hw.sub (w' := [(qt, .inr (8, [.ref qt_keyCodes, .ref qt_bytes, .int qt_size, .int qt_most, .int j121, .int qt_kind, .int qt_place, .int j122, .long j123, .int (-1), .int qt_fault, .int qt_faultPlace])), (qt_keyCodes, eJ G 27 qt_keyCodes_c), (qt_bytes, eB G 940 qt_bytes_c)]) [1, 0, 2] rfl rfl
                exact ihJ124 0 j119 j120 j121 j122 j123 (by have e0 : (0 : Int32).toInt = 0 := rfl; omega) (by decide) (by omega) (by omega) (by omega) (by have e0 : (0 : Int32).toInt = 0 := rfl; first | assumption | omega | (rfl) | (exact absurd rfl id)) (by have e0 : (0 : Int32).toInt = 0 := rfl; first | assumption | omega) (by have e0 : (0 : Int32).toInt = 0 := rfl; first | assumption | omega | (rw [show (qt_from.toInt - qt_from.toInt).toNat = 0 by omega]; rfl) | (exact absurd rfl id)) (by have e0 : (0 : Int32).toInt = 0 := rfl; first | assumption | omega | (rw [show (qt_from.toInt - qt_from.toInt).toNat = 0 by omega]; rfl) | (exact absurd rfl id)) (by have e0 : (0 : Int32).toInt = 0 := rfl; first | assumption | omega) (by have e0 : (0 : Int32).toInt = 0 := rfl; first | assumption | omega | (intro _ _; rw [show (qt_from.toInt - qt_from.toInt).toNat = 0 by omega]; rfl) | (intro h7 h8; omega) | (exact absurd rfl id)) (by have e0 : (0 : Int32).toInt = 0 := rfl; first | assumption | omega | (intro _ _; rw [show (qt_from.toInt - qt_from.toInt).toNat = 0 by omega]; rfl) | (intro h7 h8; omega) | (exact absurd rfl id)) (by have e0 : (0 : Int32).toInt = 0 := rfl; first | assumption | omega | (intro h7; omega)) _ _ _ hw (lv_sub hl [0, 2, 3, 4] rfl)
              · skip
                have c572 : r565.toInt ≤ 57 := i_ltF (X := 57) (Y := r565.toInt) rfl rfl c572
                obtain ⟨v573, ev573⟩ : ∃ z : Int32, j119 + 1 = z := ⟨_, rfl⟩
                have hv573 : v573.toInt = j119.toInt + 1 := by rw [← ev573]; exact i_add rfl rfl (by omega) (by omega)
                refine lv_iinc (v := v573) (lv' := [(2, .int v573), (4, .int r565), (3, .int j118), (1, .int j120), (0, .ref qt)]) C.1 C.2.1 dX9_readRun_96 hl (k := 2) rfl ev573 (by decide) rfl (fun ls hl => ?_)
                refine lv_aload_n C.1 C.2.1 dX9_readRun_99 rfl (lv_at hl 4 rfl) ?_
                refine lv_aload_n C.1 C.2.1 dX9_readRun_100 rfl (lv_at hl 4 rfl) ?_
                refine x_get C hw iwX9 8 rfl 1 rfl 7 (by decide) kw101 rfl dX9_readRun_101 ?_
                refine lv_bipush (v := 10) C.1 C.2.1 dX9_readRun_104 (by decide) ?_
                refine lv_imul C.1 C.2.1 dX9_readRun_106 (x_genP (fun z : Int32 => z = j122 * 10) rfl (fun v574 hv574 => ?_))
                refine lv_iload C.1 C.2.1 dX9_readRun_107 (lv_at hl 1 rfl) ?_
                refine lv_bipush (v := 48) C.1 C.2.1 dX9_readRun_109 (by decide) ?_
                refine lv_isub C.1 C.2.1 dX9_readRun_111 (x_genP (fun z : Int32 => z.toInt = r565.toInt - 48) (i_sub (X := r565.toInt) (Y := 48) rfl rfl (by omega) (by omega)) (fun v575 hv575 => ?_))
                refine lv_iadd C.1 C.2.1 dX9_readRun_112 (x_genP (fun z : Int32 => z = v574 + v575) rfl (fun v576 hv576 => ?_))
                refine x_put (w' := [(qt_keyCodes, eJ G 27 qt_keyCodes_c), (qt, .inr (8, [.ref qt_keyCodes, .ref qt_bytes, .int qt_size, .int qt_most, .int j121, .int qt_kind, .int qt_place, .int v576, .long j123, .int (-1), .int qt_fault, .int qt_faultPlace])), (qt_bytes, eB G 940 qt_bytes_c)]) C hw iwX9 tyX9_ok nmX9 8 rfl 1 rfl 7 (by decide) kw101 rfl rfl rfl (Nat.le_of_ble_eq_true rfl) rfl dX9_readRun_113 (fun H locs hw => ?_)
                refine lv_aload_n C.1 C.2.1 dX9_readRun_116 rfl (lv_at hl 4 rfl) ?_
                refine lv_dup C.1 C.2.1 dX9_readRun_117 rfl ?_
                refine x_get C hw iwX9 8 rfl 1 rfl 4 (by decide) kw93 rfl dX9_readRun_118 ?_
                refine lv_iconst (v := 1) C.1 C.2.1 dX9_readRun_121 (by decide) ?_
                refine lv_iadd C.1 C.2.1 dX9_readRun_122 (x_genP (fun z : Int32 => z.toInt = j121.toInt + 1) (i_add (X := j121.toInt) (Y := 1) rfl rfl (by omega) (by omega)) (fun v577 hv577 => ?_))
                refine x_put (w' := [(qt_keyCodes, eJ G 27 qt_keyCodes_c), (qt, .inr (8, [.ref qt_keyCodes, .ref qt_bytes, .int qt_size, .int qt_most, .int v577, .int qt_kind, .int qt_place, .int v576, .long j123, .int (-1), .int qt_fault, .int qt_faultPlace])), (qt_bytes, eB G 940 qt_bytes_c)]) C hw iwX9 tyX9_ok nmX9 8 rfl 1 rfl 4 (by decide) kw93 rfl rfl rfl (Nat.le_of_ble_eq_true rfl) rfl dX9_readRun_123 (fun H locs hw => ?_)
                refine lv_goto (tgt := 131) C.1 C.2.1 dX9_readRun_126 (by decide) ?_
                refine lv_goto (tgt := 6) C.1 C.2.1 dX9_readRun_131 (by decide) ?_
                have hw := hw.sub (w' := [(qt, .inr (8, [.ref qt_keyCodes, .ref qt_bytes, .int qt_size, .int qt_most, .int v577, .int qt_kind, .int qt_place, .int v576, .long j123, .int (-1), .int qt_fault, .int qt_faultPlace])), (qt_keyCodes, eJ G 27 qt_keyCodes_c), (qt_bytes, eB G 940 qt_bytes_c)]) [1, 0, 2] rfl rfl
                exact ihJ124 j118 v573 j120 v577 v576 j123 (by omega) (by omega) (by omega) (by omega) (by omega) (by first | assumption | omega | (rfl) | (rw [hv577, sc_step (by omega) (wdB_t (by omega))]; assumption)) (by first | assumption | omega) (by first | assumption | omega | (rw [show (qt_from.toInt - qt_from.toInt).toNat = 0 by omega]; rfl) | (have h8 := cD_y (b := b) (s := qt_from.toInt) (by omega) hv577 (by omega); omega)) (by first | assumption | omega | (rw [show (qt_from.toInt - qt_from.toInt).toNat = 0 by omega]; rfl) | (have h8 := cD_y (b := b) (s := qt_from.toInt) (by omega) hv577 (by omega); omega)) (by first | assumption | omega) (by first | assumption | omega | (intro _ _; rw [show (qt_from.toInt - qt_from.toInt).toNat = 0 by omega]; rfl) | (intro h7 h8; omega) | (intro h7 h8; exact code_step (by omega) hv577 (by omega) (by omega) (by omega) (by omega) hv574 (by omega) h0.2 hv576)) (by first | assumption | omega | (intro _ _; rw [show (qt_from.toInt - qt_from.toInt).toNat = 0 by omega]; rfl) | (intro h7 h8; omega) | (intro h7 h8; exact val_step (by omega) hv577 (by omega) (by omega) (by omega) (by omega) hv574 (by omega) hv576)) (by first | assumption | omega | (intro h7; omega)) _ _ _ hw (lv_sub hl [2, 0, 3, 4] rfl)
          · skip
            have c570 : 97 ≤ r565.toInt := i_ltF (X := r565.toInt) (Y := 97) rfl rfl c570
            refine lv_iload C.1 C.2.1 dX9_readRun_38 (lv_at hl 0 rfl) ?_
            refine lv_bipush (v := 122) C.1 C.2.1 dX9_readRun_40 (by decide) ?_
            refine lv_icmp_gt (tgt := 82) C.1 C.2.1 dX9_readRun_42 (by decide) (fun c578 => ?_) (fun c578 => ?_)
            · skip
              have c578 : 122 < r565.toInt := i_ltT (X := 122) (Y := r565.toInt) rfl rfl c578
              refine lv_iload C.1 C.2.1 dX9_readRun_82 (lv_at hl 0 rfl) ?_
              refine lv_bipush (v := 48) C.1 C.2.1 dX9_readRun_84 (by decide) ?_
              refine lv_icmp_lt (tgt := 129) C.1 C.2.1 dX9_readRun_86 (by decide) (fun c579 => ?_) (fun c579 => ?_)
              · skip
                have c579 : r565.toInt < 48 := i_ltT (X := r565.toInt) (Y := 48) rfl rfl c579
                exfalso; omega
              · skip
                have c579 : 48 ≤ r565.toInt := i_ltF (X := r565.toInt) (Y := 48) rfl rfl c579
                refine lv_iload C.1 C.2.1 dX9_readRun_89 (lv_at hl 0 rfl) ?_
                refine lv_bipush (v := 57) C.1 C.2.1 dX9_readRun_91 (by decide) ?_
                refine lv_icmp_gt (tgt := 129) C.1 C.2.1 dX9_readRun_93 (by decide) (fun c580 => ?_) (fun c580 => ?_)
                · skip
                  have c580 : 57 < r565.toInt := i_ltT (X := 57) (Y := r565.toInt) rfl rfl c580
                  refine lv_iconst (v := 0) C.1 C.2.1 dX9_readRun_129 (by decide) ?_
                  refine lv_istore_n (lv' := [(3, .int 0), (4, .int r565), (2, .int j119), (1, .int j120), (0, .ref qt)]) C.1 C.2.1 dX9_readRun_130 rfl hl (by decide) rfl (fun ls hl => ?_)
                  refine lv_goto (tgt := 6) C.1 C.2.1 dX9_readRun_131 (by decide) ?_
                  have hw := hw.sub (w' := [(qt, .inr (8, [.ref qt_keyCodes, .ref qt_bytes, .int qt_size, .int qt_most, .int j121, .int qt_kind, .int qt_place, .int j122, .long j123, .int (-1), .int qt_fault, .int qt_faultPlace])), (qt_keyCodes, eJ G 27 qt_keyCodes_c), (qt_bytes, eB G 940 qt_bytes_c)]) [1, 0, 2] rfl rfl
                  exact ihJ124 0 j119 j120 j121 j122 j123 (by have e0 : (0 : Int32).toInt = 0 := rfl; omega) (by decide) (by omega) (by omega) (by omega) (by have e0 : (0 : Int32).toInt = 0 := rfl; first | assumption | omega | (rfl) | (exact absurd rfl id)) (by have e0 : (0 : Int32).toInt = 0 := rfl; first | assumption | omega) (by have e0 : (0 : Int32).toInt = 0 := rfl; first | assumption | omega | (rw [show (qt_from.toInt - qt_from.toInt).toNat = 0 by omega]; rfl) | (exact absurd rfl id)) (by have e0 : (0 : Int32).toInt = 0 := rfl; first | assumption | omega | (rw [show (qt_from.toInt - qt_from.toInt).toNat = 0 by omega]; rfl) | (exact absurd rfl id)) (by have e0 : (0 : Int32).toInt = 0 := rfl; first | assumption | omega) (by have e0 : (0 : Int32).toInt = 0 := rfl; first | assumption | omega | (intro _ _; rw [show (qt_from.toInt - qt_from.toInt).toNat = 0 by omega]; rfl) | (intro h7 h8; omega) | (exact absurd rfl id)) (by have e0 : (0 : Int32).toInt = 0 := rfl; first | assumption | omega | (intro _ _; rw [show (qt_from.toInt - qt_from.toInt).toNat = 0 by omega]; rfl) | (intro h7 h8; omega) | (exact absurd rfl id)) (by have e0 : (0 : Int32).toInt = 0 := rfl; first | assumption | omega | (intro h7; omega)) _ _ _ hw (lv_sub hl [0, 2, 3, 4] rfl)
                · skip
                  have c580 : r565.toInt ≤ 57 := i_ltF (X := 57) (Y := r565.toInt) rfl rfl c580
                  exfalso; omega
            · skip
              have c578 : r565.toInt ≤ 122 := i_ltF (X := 122) (Y := r565.toInt) rfl rfl c578
              obtain ⟨v581, ev581⟩ : ∃ z : Int32, j120 + 1 = z := ⟨_, rfl⟩
              have hv581 : v581.toInt = j120.toInt + 1 := by rw [← ev581]; exact i_add rfl rfl (by omega) (by omega)
              refine lv_iinc (v := v581) (lv' := [(1, .int v581), (4, .int r565), (3, .int j118), (2, .int j119), (0, .ref qt)]) C.1 C.2.1 dX9_readRun_45 hl (k := 3) rfl ev581 (by decide) rfl (fun ls hl => ?_)
              refine lv_aload_n C.1 C.2.1 dX9_readRun_48 rfl (lv_at hl 4 rfl) ?_
              refine lv_aload_n C.1 C.2.1 dX9_readRun_49 rfl (lv_at hl 4 rfl) ?_
              refine x_get C hw iwX9 8 rfl 1 rfl 8 (by decide) kw105 rfl dX9_readRun_50 ?_
              refine lv_ldc2 (v := 32) C.1 C.2.1 C.2.2.2.1 (C.2.2.2.2 _ kw87) dX9_readRun_53 ?_
              refine lv_lmul C.1 C.2.1 dX9_readRun_56 (x_genlP (fun z : Int64 => z = j123 * (32 : Int64)) rfl (fun v582 hv582 => ?_))
              refine lv_iload C.1 C.2.1 dX9_readRun_57 (lv_at hl 1 rfl) ?_
              refine lv_bipush (v := 97) C.1 C.2.1 dX9_readRun_59 (by decide) ?_
              refine lv_isub C.1 C.2.1 dX9_readRun_61 (x_genP (fun z : Int32 => z.toInt = r565.toInt - 97) (i_sub (X := r565.toInt) (Y := 97) rfl rfl (by omega) (by omega)) (fun v583 hv583 => ?_))
              refine lv_iconst (v := 1) C.1 C.2.1 dX9_readRun_62 (by decide) ?_
              refine lv_iadd C.1 C.2.1 dX9_readRun_63 (x_genP (fun z : Int32 => z.toInt = v583.toInt + 1) (i_add (X := v583.toInt) (Y := 1) rfl rfl (by omega) (by omega)) (fun v584 hv584 => ?_))
              refine lv_i2l (v := v584.toInt64) C.1 C.2.1 dX9_readRun_64 rfl (x_genlP (fun z : Int64 => z.toInt = v584.toInt ∧ z = v584.toInt64) ⟨l_i2l _, rfl⟩ (fun v585 hv585 => ?_))
              refine lv_ladd C.1 C.2.1 dX9_readRun_65 (x_genlP (fun z : Int64 => z = v582 + v585) rfl (fun v586 hv586 => ?_))
              refine x_put (w' := [(qt_keyCodes, eJ G 27 qt_keyCodes_c), (qt, .inr (8, [.ref qt_keyCodes, .ref qt_bytes, .int qt_size, .int qt_most, .int j121, .int qt_kind, .int qt_place, .int j122, .long v586, .int (-1), .int qt_fault, .int qt_faultPlace])), (qt_bytes, eB G 940 qt_bytes_c)]) C hw iwX9 tyX9_ok nmX9 8 rfl 1 rfl 8 (by decide) kw105 rfl rfl rfl (Nat.le_of_ble_eq_true rfl) rfl dX9_readRun_66 (fun H locs hw => ?_)
              refine lv_aload_n C.1 C.2.1 dX9_readRun_69 rfl (lv_at hl 4 rfl) ?_
              refine lv_dup C.1 C.2.1 dX9_readRun_70 rfl ?_
              refine x_get C hw iwX9 8 rfl 1 rfl 4 (by decide) kw93 rfl dX9_readRun_71 ?_
              refine lv_iconst (v := 1) C.1 C.2.1 dX9_readRun_74 (by decide) ?_
              refine lv_iadd C.1 C.2.1 dX9_readRun_75 (x_genP (fun z : Int32 => z.toInt = j121.toInt + 1) (i_add (X := j121.toInt) (Y := 1) rfl rfl (by omega) (by omega)) (fun v587 hv587 => ?_))
              refine x_put (w' := [(qt_keyCodes, eJ G 27 qt_keyCodes_c), (qt, .inr (8, [.ref qt_keyCodes, .ref qt_bytes, .int qt_size, .int qt_most, .int v587, .int qt_kind, .int qt_place, .int j122, .long v586, .int (-1), .int qt_fault, .int qt_faultPlace])), (qt_bytes, eB G 940 qt_bytes_c)]) C hw iwX9 tyX9_ok nmX9 8 rfl 1 rfl 4 (by decide) kw93 rfl rfl rfl (Nat.le_of_ble_eq_true rfl) rfl dX9_readRun_76 (fun H locs hw => ?_)
              refine lv_goto (tgt := 131) C.1 C.2.1 dX9_readRun_79 (by decide) ?_
              refine lv_goto (tgt := 6) C.1 C.2.1 dX9_readRun_131 (by decide) ?_
              have hw := hw.sub (w' := [(qt, .inr (8, [.ref qt_keyCodes, .ref qt_bytes, .int qt_size, .int qt_most, .int v587, .int qt_kind, .int qt_place, .int j122, .long v586, .int (-1), .int qt_fault, .int qt_faultPlace])), (qt_keyCodes, eJ G 27 qt_keyCodes_c), (qt_bytes, eB G 940 qt_bytes_c)]) [1, 0, 2] rfl rfl
              exact ihJ124 j118 j119 v581 v587 j122 v586 (by omega) (by omega) (by omega) (by omega) (by omega) (by first | assumption | omega | (rfl) | (rw [hv587, sc_step (by omega) (wdB_t (by omega))]; assumption)) (by first | assumption | omega) (by first | assumption | omega | (rw [show (qt_from.toInt - qt_from.toInt).toNat = 0 by omega]; rfl) | (have h8 := cL_y (b := b) (s := qt_from.toInt) (by omega) hv587 (by omega); omega)) (by first | assumption | omega | (rw [show (qt_from.toInt - qt_from.toInt).toNat = 0 by omega]; rfl) | (have h8 := cL_y (b := b) (s := qt_from.toInt) (by omega) hv587 (by omega); omega)) (by first | assumption | omega) (by first | assumption | omega | (intro _ _; rw [show (qt_from.toInt - qt_from.toInt).toNat = 0 by omega]; rfl) | (intro h7 h8; omega) | (intro h7 h8; exact code_step (by omega) hv587 (by omega) (by omega) (by omega) (by omega) hv582 (by omega) hv585.2 hv586)) (by first | assumption | omega | (intro _ _; rw [show (qt_from.toInt - qt_from.toInt).toNat = 0 by omega]; rfl) | (intro h7 h8; omega) | (intro h7 h8; exact val_step (by omega) hv587 (by omega) (by omega) (by omega) (by omega) hv582 (by omega) hv586)) (by first | assumption | omega | (intro h7; omega)) _ _ _ hw (lv_sub hl [2, 3, 0, 4] rfl)
  exact loopJ124 _ 1 0 0 qt_from 0 0 (Nat.lt_succ_self _) (by decide) (by decide) (by decide) (by omega) (by have e0 : (0 : Int32).toInt = 0 := rfl; have e1 : (1 : Int32).toInt = 1 := rfl; first | assumption | omega | (rfl) | (exact absurd rfl id)) (by have e0 : (0 : Int32).toInt = 0 := rfl; have e1 : (1 : Int32).toInt = 1 := rfl; first | assumption | omega) (by have e0 : (0 : Int32).toInt = 0 := rfl; have e1 : (1 : Int32).toInt = 1 := rfl; first | assumption | omega | (rw [show (qt_from.toInt - qt_from.toInt).toNat = 0 by omega]; rfl) | (exact absurd rfl id)) (by have e0 : (0 : Int32).toInt = 0 := rfl; have e1 : (1 : Int32).toInt = 1 := rfl; first | assumption | omega | (rw [show (qt_from.toInt - qt_from.toInt).toNat = 0 by omega]; rfl) | (exact absurd rfl id)) (by have e0 : (0 : Int32).toInt = 0 := rfl; have e1 : (1 : Int32).toInt = 1 := rfl; first | assumption | omega) (by have e0 : (0 : Int32).toInt = 0 := rfl; have e1 : (1 : Int32).toInt = 1 := rfl; first | assumption | omega | (intro _ _; rw [show (qt_from.toInt - qt_from.toInt).toNat = 0 by omega]; rfl) | (intro h7 h8; omega) | (exact absurd rfl id)) (by have e0 : (0 : Int32).toInt = 0 := rfl; have e1 : (1 : Int32).toInt = 1 := rfl; first | assumption | omega | (intro _ _; rw [show (qt_from.toInt - qt_from.toInt).toNat = 0 by omega]; rfl) | (intro h7 h8; omega) | (exact absurd rfl id)) (by have e0 : (0 : Int32).toInt = 0 := rfl; have e1 : (1 : Int32).toInt = 1 := rfl; first | assumption | omega | (intro h7; omega)) _ _ _ hw (lv_sub hl [0, 1, 2, 3] rfl)
theorem dX9_next_0 : decode cX9_next 0 = .ok (.aload_n 0, 1) := by decide +kernel
theorem dX9_next_1 : decode cX9_next 1 = .ok (.aload_n 0, 1) := by decide +kernel
theorem dX9_next_2 : decode cX9_next 2 = .ok (.getfield 50, 3) := by decide +kernel
theorem dX9_next_5 : decode cX9_next 5 = .ok (.invokevirtual 37, 3) := by decide +kernel
theorem dX9_next_8 : decode cX9_next 8 = .ok (.istore_n 1, 1) := by decide +kernel
theorem dX9_next_9 : decode cX9_next 9 = .ok (.aload_n 0, 1) := by decide +kernel
theorem dX9_next_10 : decode cX9_next 10 = .ok (.getfield 50, 3) := by decide +kernel
theorem dX9_next_13 : decode cX9_next 13 = .ok (.aload_n 0, 1) := by decide +kernel
theorem dX9_next_14 : decode cX9_next 14 = .ok (.getfield 33, 3) := by decide +kernel
theorem dX9_next_17 : decode cX9_next 17 = .ok (.if_icmp .ge 37, 3) := by decide +kernel
theorem dX9_next_20 : decode cX9_next 20 = .ok (.iload_n 1, 1) := by decide +kernel
theorem dX9_next_21 : decode cX9_next 21 = .ok (.bipush 32, 2) := by decide +kernel
theorem dX9_next_23 : decode cX9_next 23 = .ok (.if_icmp .eq 9, 3) := by decide +kernel
theorem dX9_next_26 : decode cX9_next 26 = .ok (.iload_n 1, 1) := by decide +kernel
theorem dX9_next_27 : decode cX9_next 27 = .ok (.bipush 10, 2) := by decide +kernel
theorem dX9_next_29 : decode cX9_next 29 = .ok (.if_icmp .ne 25, 3) := by decide +kernel
theorem dX9_next_32 : decode cX9_next 32 = .ok (.aload_n 0, 1) := by decide +kernel
theorem dX9_next_33 : decode cX9_next 33 = .ok (.dup, 1) := by decide +kernel
theorem dX9_next_34 : decode cX9_next 34 = .ok (.getfield 50, 3) := by decide +kernel
theorem dX9_next_37 : decode cX9_next 37 = .ok (.iconst 1, 1) := by decide +kernel
theorem dX9_next_38 : decode cX9_next 38 = .ok (.iadd, 1) := by decide +kernel
theorem dX9_next_39 : decode cX9_next 39 = .ok (.putfield 50, 3) := by decide +kernel
theorem dX9_next_42 : decode cX9_next 42 = .ok (.aload_n 0, 1) := by decide +kernel
theorem dX9_next_43 : decode cX9_next 43 = .ok (.aload_n 0, 1) := by decide +kernel
theorem dX9_next_44 : decode cX9_next 44 = .ok (.getfield 50, 3) := by decide +kernel
theorem dX9_next_47 : decode cX9_next 47 = .ok (.invokevirtual 37, 3) := by decide +kernel
theorem dX9_next_50 : decode cX9_next 50 = .ok (.istore_n 1, 1) := by decide +kernel
theorem dX9_next_51 : decode cX9_next 51 = .ok (.goto (-42), 3) := by decide +kernel
theorem dX9_next_54 : decode cX9_next 54 = .ok (.aload_n 0, 1) := by decide +kernel
theorem dX9_next_55 : decode cX9_next 55 = .ok (.aload_n 0, 1) := by decide +kernel
theorem dX9_next_56 : decode cX9_next 56 = .ok (.getfield 50, 3) := by decide +kernel
theorem dX9_next_59 : decode cX9_next 59 = .ok (.putfield 59, 3) := by decide +kernel
theorem dX9_next_62 : decode cX9_next 62 = .ok (.aload_n 0, 1) := by decide +kernel
theorem dX9_next_63 : decode cX9_next 63 = .ok (.iconst 0, 1) := by decide +kernel
theorem dX9_next_64 : decode cX9_next 64 = .ok (.putfield 62, 3) := by decide +kernel
theorem dX9_next_67 : decode cX9_next 67 = .ok (.aload_n 0, 1) := by decide +kernel
theorem dX9_next_68 : decode cX9_next 68 = .ok (.lconst 0, 1) := by decide +kernel
theorem dX9_next_69 : decode cX9_next 69 = .ok (.putfield 65, 3) := by decide +kernel
theorem dX9_next_72 : decode cX9_next 72 = .ok (.aload_n 0, 1) := by decide +kernel
theorem dX9_next_73 : decode cX9_next 73 = .ok (.iconst (-1), 1) := by decide +kernel
theorem dX9_next_74 : decode cX9_next 74 = .ok (.putfield 69, 3) := by decide +kernel
theorem dX9_next_77 : decode cX9_next 77 = .ok (.aload_n 0, 1) := by decide +kernel
theorem dX9_next_78 : decode cX9_next 78 = .ok (.getfield 33, 3) := by decide +kernel
theorem dX9_next_81 : decode cX9_next 81 = .ok (.aload_n 0, 1) := by decide +kernel
theorem dX9_next_82 : decode cX9_next 82 = .ok (.getfield 47, 3) := by decide +kernel
theorem dX9_next_85 : decode cX9_next 85 = .ok (.if_icmp .le 30, 3) := by decide +kernel
theorem dX9_next_88 : decode cX9_next 88 = .ok (.aload_n 0, 1) := by decide +kernel
theorem dX9_next_89 : decode cX9_next 89 = .ok (.getfield 50, 3) := by decide +kernel
theorem dX9_next_92 : decode cX9_next 92 = .ok (.aload_n 0, 1) := by decide +kernel
theorem dX9_next_93 : decode cX9_next 93 = .ok (.getfield 47, 3) := by decide +kernel
theorem dX9_next_96 : decode cX9_next 96 = .ok (.if_icmp .lt 19, 3) := by decide +kernel
theorem dX9_next_99 : decode cX9_next 99 = .ok (.aload_n 0, 1) := by decide +kernel
theorem dX9_next_100 : decode cX9_next 100 = .ok (.iconst 1, 1) := by decide +kernel
theorem dX9_next_101 : decode cX9_next 101 = .ok (.putfield 72, 3) := by decide +kernel
theorem dX9_next_104 : decode cX9_next 104 = .ok (.aload_n 0, 1) := by decide +kernel
theorem dX9_next_105 : decode cX9_next 105 = .ok (.aload_n 0, 1) := by decide +kernel
theorem dX9_next_106 : decode cX9_next 106 = .ok (.getfield 47, 3) := by decide +kernel
theorem dX9_next_109 : decode cX9_next 109 = .ok (.putfield 59, 3) := by decide +kernel
theorem dX9_next_112 : decode cX9_next 112 = .ok (.goto 101, 3) := by decide +kernel
theorem dX9_next_213 : decode cX9_next 213 = .ok (.return_, 1) := by decide +kernel
theorem dX9_next_115 : decode cX9_next 115 = .ok (.aload_n 0, 1) := by decide +kernel
theorem dX9_next_116 : decode cX9_next 116 = .ok (.getfield 50, 3) := by decide +kernel
theorem dX9_next_119 : decode cX9_next 119 = .ok (.aload_n 0, 1) := by decide +kernel
theorem dX9_next_120 : decode cX9_next 120 = .ok (.getfield 33, 3) := by decide +kernel
theorem dX9_next_123 : decode cX9_next 123 = .ok (.if_icmp .lt 11, 3) := by decide +kernel
theorem dX9_next_134 : decode cX9_next 134 = .ok (.iload_n 1, 1) := by decide +kernel
theorem dX9_next_135 : decode cX9_next 135 = .ok (.bipush 97, 2) := by decide +kernel
theorem dX9_next_137 : decode cX9_next 137 = .ok (.if_icmp .lt 9, 3) := by decide +kernel
theorem dX9_next_140 : decode cX9_next 140 = .ok (.iload_n 1, 1) := by decide +kernel
theorem dX9_next_141 : decode cX9_next 141 = .ok (.bipush 122, 2) := by decide +kernel
theorem dX9_next_143 : decode cX9_next 143 = .ok (.if_icmp .le 15, 3) := by decide +kernel
theorem dX9_next_158 : decode cX9_next 158 = .ok (.aload_n 0, 1) := by decide +kernel
theorem dX9_next_159 : decode cX9_next 159 = .ok (.invokevirtual 75, 3) := by decide +kernel
theorem mwX9_readRun : MwV yX9_readRun cX9_readRun 5 none 0 := ⟨⟨kw537, kw2, by decide +kernel⟩, kw536, kS2⟩
theorem dX9_next_162 : decode cX9_next 162 = .ok (.goto 51, 3) := by decide +kernel
theorem dX9_next_146 : decode cX9_next 146 = .ok (.iload_n 1, 1) := by decide +kernel
theorem dX9_next_147 : decode cX9_next 147 = .ok (.bipush 48, 2) := by decide +kernel
theorem dX9_next_149 : decode cX9_next 149 = .ok (.if_icmp .lt 16, 3) := by decide +kernel
theorem dX9_next_152 : decode cX9_next 152 = .ok (.iload_n 1, 1) := by decide +kernel
theorem dX9_next_153 : decode cX9_next 153 = .ok (.bipush 57, 2) := by decide +kernel
theorem dX9_next_155 : decode cX9_next 155 = .ok (.if_icmp .gt 10, 3) := by decide +kernel
theorem dX9_next_165 : decode cX9_next 165 = .ok (.aload_n 0, 1) := by decide +kernel
theorem dX9_next_166 : decode cX9_next 166 = .ok (.iload_n 1, 1) := by decide +kernel
theorem dX9_next_167 : decode cX9_next 167 = .ok (.bipush 59, 2) := by decide +kernel
theorem dX9_next_169 : decode cX9_next 169 = .ok (.if_icmp .lt 9, 3) := by decide +kernel
theorem dX9_next_172 : decode cX9_next 172 = .ok (.iload_n 1, 1) := by decide +kernel
theorem dX9_next_173 : decode cX9_next 173 = .ok (.bipush 62, 2) := by decide +kernel
theorem dX9_next_175 : decode cX9_next 175 = .ok (.if_icmp .le 15, 3) := by decide +kernel
theorem dX9_next_178 : decode cX9_next 178 = .ok (.iload_n 1, 1) := by decide +kernel
theorem dX9_next_179 : decode cX9_next 179 = .ok (.bipush 40, 2) := by decide +kernel
theorem dX9_next_181 : decode cX9_next 181 = .ok (.if_icmp .eq 9, 3) := by decide +kernel
theorem dX9_next_184 : decode cX9_next 184 = .ok (.iload_n 1, 1) := by decide +kernel
theorem dX9_next_185 : decode cX9_next 185 = .ok (.bipush 41, 2) := by decide +kernel
theorem dX9_next_187 : decode cX9_next 187 = .ok (.if_icmp .ne 7, 3) := by decide +kernel
theorem dX9_next_194 : decode cX9_next 194 = .ok (.iconst 1, 1) := by decide +kernel
theorem dX9_next_195 : decode cX9_next 195 = .ok (.putfield 72, 3) := by decide +kernel
theorem dX9_next_198 : decode cX9_next 198 = .ok (.aload_n 0, 1) := by decide +kernel
theorem dX9_next_199 : decode cX9_next 199 = .ok (.iload_n 1, 1) := by decide +kernel
theorem dX9_next_200 : decode cX9_next 200 = .ok (.putfield 62, 3) := by decide +kernel
theorem dX9_next_203 : decode cX9_next 203 = .ok (.aload_n 0, 1) := by decide +kernel
theorem dX9_next_204 : decode cX9_next 204 = .ok (.dup, 1) := by decide +kernel
theorem dX9_next_205 : decode cX9_next 205 = .ok (.getfield 50, 3) := by decide +kernel
theorem dX9_next_208 : decode cX9_next 208 = .ok (.iconst 1, 1) := by decide +kernel
theorem dX9_next_209 : decode cX9_next 209 = .ok (.iadd, 1) := by decide +kernel
theorem dX9_next_210 : decode cX9_next 210 = .ok (.putfield 50, 3) := by decide +kernel
theorem dX9_next_190 : decode cX9_next 190 = .ok (.iconst 5, 1) := by decide +kernel
theorem dX9_next_191 : decode cX9_next 191 = .ok (.goto 4, 3) := by decide +kernel
theorem dX9_next_126 : decode cX9_next 126 = .ok (.aload_n 0, 1) := by decide +kernel
theorem dX9_next_127 : decode cX9_next 127 = .ok (.iconst 0, 1) := by decide +kernel
theorem dX9_next_128 : decode cX9_next 128 = .ok (.putfield 72, 3) := by decide +kernel
theorem dX9_next_131 : decode cX9_next 131 = .ok (.goto 82, 3) := by decide +kernel
set_option maxHeartbeats 4000000 in
set_option maxRecDepth 100000 in
theorem e_X9_next {l : Launch} {G : Gc} (qt : Nat) (qt_keyCodes : Nat) (qt_bytes : Nat) (qt_size : Int32) (qt_most : Int32) (qt_from : Int32) (qt_kind : Int32) (qt_place : Int32) (qt_value : Int32) (qt_code : Int64) (qt_key : Int32) (qt_fault : Int32) (qt_faultPlace : Int32) (qt_keyCodes_c : Nat → Int64) (qt_bytes_c : Nat → Int32) (b : Int → Int) (hi_qt_from : 0 ≤ qt_from.toInt ∧ qt_from.toInt ≤ 940) (hi_qt_most : 0 ≤ qt_most.toInt ∧ qt_most.toInt ≤ 900) (hi_qt_size : 0 ≤ qt_size.toInt ∧ qt_size.toInt ≤ 940) (hr_0 : tbC b qt_bytes_c qt_size) (hr_1 : kcI qt_keyCodes_c) : Cv l yX9_next cX9_next 2 2 0 0 G [.ref qt] [(qt, .inr (8, [.ref qt_keyCodes, .ref qt_bytes, .int qt_size, .int qt_most, .int qt_from, .int qt_kind, .int qt_place, .int qt_value, .long qt_code, .int qt_key, .int qt_fault, .int qt_faultPlace])), (qt_keyCodes, eJ G 27 qt_keyCodes_c), (qt_bytes, eB G 940 qt_bytes_c)] (fun (u9 : va_W) => ∃ (x0_qt_from : Int32) (x1_qt_kind : Int32) (x2_qt_place : Int32) (x3_qt_value : Int32) (x4_qt_code : Int64) (x5_qt_key : Int32), u9 = [(qt, .inr (8, [.ref qt_keyCodes, .ref qt_bytes, .int qt_size, .int qt_most, .int x0_qt_from, .int x1_qt_kind, .int x2_qt_place, .int x3_qt_value, .long x4_qt_code, .int x5_qt_key, .int qt_fault, .int qt_faultPlace])), (qt_keyCodes, eJ G 27 qt_keyCodes_c), (qt_bytes, eB G 940 qt_bytes_c)] ∧ (0 ≤ x0_qt_from.toInt ∧ x0_qt_from.toInt ≤ 940) ∧ (0 ≤ x1_qt_kind.toInt ∧ x1_qt_kind.toInt ≤ 5) ∧ (0 ≤ x2_qt_place.toInt ∧ x2_qt_place.toInt ≤ 940) ∧ ((-1) ≤ x5_qt_key.toInt ∧ x5_qt_key.toInt ≤ 33) ∧ (x0_qt_from.toInt = tkX b qt_size.toInt qt_most.toInt qt_from.toInt) ∧ (x2_qt_place.toInt = tkP b qt_size.toInt qt_most.toInt qt_from.toInt) ∧ ((tkK b qt_size.toInt qt_most.toInt qt_from.toInt = 0 ∧ x1_qt_kind.toInt = 0) ∨ (tkK b qt_size.toInt qt_most.toInt qt_from.toInt = 1 ∧ x1_qt_kind.toInt = 1) ∨ (tkK b qt_size.toInt qt_most.toInt qt_from.toInt = 2 ∧ kyN (tkW b qt_size.toInt qt_from.toInt) = -1 ∧ x1_qt_kind.toInt = 2) ∨ (tkK b qt_size.toInt qt_most.toInt qt_from.toInt = 2 ∧ 0 ≤ kyN (tkW b qt_size.toInt qt_from.toInt) ∧ x1_qt_kind.toInt = 3) ∨ (tkK b qt_size.toInt qt_most.toInt qt_from.toInt = 3 ∧ x1_qt_kind.toInt = 4) ∨ (tkK b qt_size.toInt qt_most.toInt qt_from.toInt = 4 ∧ x1_qt_kind.toInt = 5)) ∧ (tkK b qt_size.toInt qt_most.toInt qt_from.toInt = 3 → x3_qt_value.toInt = tkN b qt_size.toInt qt_from.toInt) ∧ (tkK b qt_size.toInt qt_most.toInt qt_from.toInt = 4 → x3_qt_value.toInt = tkG b qt_size.toInt qt_from.toInt) ∧ (tkK b qt_size.toInt qt_most.toInt qt_from.toInt = 2 → x4_qt_code.toInt = cv (tkW b qt_size.toInt qt_from.toInt) ∧ x5_qt_key.toInt = kyN (tkW b qt_size.toInt qt_from.toInt)) ∧ (tkK b qt_size.toInt qt_most.toInt qt_from.toInt ≠ 2 → x5_qt_key.toInt = -1)) := by
  refine Cv.ofQ (by decide) (Nat.le_of_ble_eq_true rfl) ?_
  intro p e s m below meth c ls A args Q hQ B hw hl
  have C : CallFix p m c cX9_next 2 s args gw "LanternState$Tape" := B.1
  have hl : lv_has ls 2 [(0, .ref qt)] := hl
  refine lv_aload_n C.1 C.2.1 dX9_next_0 rfl (lv_at hl 0 rfl) ?_
  refine lv_aload_n C.1 C.2.1 dX9_next_1 rfl (lv_at hl 0 rfl) ?_
  refine x_get C hw iwX9 8 rfl 0 rfl 4 (by decide) kw93 rfl dX9_next_2 ?_
  refine x_calliV (As := [.int qt_from]) (rest := []) (wr := [(qt_keyCodes, eJ G 27 qt_keyCodes_c)]) C hw (e_X9_at qt qt_from qt_keyCodes qt_bytes qt_size qt_most qt_from qt_kind qt_place qt_value qt_code qt_key qt_fault qt_faultPlace qt_bytes_c b (by omega) hr_0) mwX9_at kw530 [0, 2] [1] rfl rfl rfl rfl (by decide) 0 rfl rfl rfl rfl hl.1 rfl (Nat.le_of_ble_eq_true rfl) ⟨(Nat.le_of_ble_eq_true rfl), (Nat.le_of_ble_eq_true rfl)⟩ ⟨(Nat.le_of_ble_eq_true rfl), (Nat.le_of_ble_eq_true rfl)⟩ dX9_next_5 (fun r1 u9 H locs hp9 hw => ?_)
  obtain ⟨x2, rfl, rfl, hf3, hf4, hf5⟩ := hp9
  have hw : Wd G s A [(qt_keyCodes, eJ G 27 qt_keyCodes_c), (qt, .inr (8, [.ref qt_keyCodes, .ref qt_bytes, .int qt_size, .int qt_most, .int qt_from, .int qt_kind, .int qt_place, .int qt_value, .long qt_code, .int qt_key, .int qt_fault, .int qt_faultPlace])), (qt_bytes, eB G 940 qt_bytes_c)] H _ := hw
  refine lv_istore_n (lv' := [(1, .int r1), (0, .ref qt)]) C.1 C.2.1 dX9_next_8 rfl hl (by decide) rfl (fun ls hl => ?_)
  have loopJ19 : ∀ (n9 : Nat) (j17 : Int32) (j18 : Int32), (2147483647 - j18.toInt).toNat < n9 → ((-1) ≤ j17.toInt ∧ j17.toInt ≤ 255) → (0 ≤ j18.toInt ∧ j18.toInt ≤ 940) → (sc (blB b) qt_size.toInt j18.toInt = sc (blB b) qt_size.toInt qt_from.toInt) → (j18.toInt < qt_size.toInt → j17.toInt = b j18.toInt) → (qt_from.toInt ≤ j18.toInt ∧ (qt_from.toInt ≤ qt_size.toInt → j18.toInt ≤ qt_size.toInt)) → ∀ (H : Heap) (locs : List Loc) (ls : Array Slot), Wd G s A [(qt_keyCodes, eJ G 27 qt_keyCodes_c), (qt, .inr (8, [.ref qt_keyCodes, .ref qt_bytes, .int qt_size, .int qt_most, .int j18, .int qt_kind, .int qt_place, .int qt_value, .long qt_code, .int qt_key, .int qt_fault, .int qt_faultPlace])), (qt_bytes, eB G 940 qt_bytes_c)] H locs → lv_has ls 2 [(1, .int j17), (0, .ref qt)] → W p l e (rmD 2 0 0) s m args below meth c H locs 0 0 Q (F0 m 9 ls []) := by
    intro n9
    induction n9 with
    | zero => intro j17 j18 h9; exact absurd h9 (Nat.not_lt_zero _)
    | succ n9 ihJ19 =>
      intro j17 j18 h9J19 hJ19_0 hJ19_1 hJ19_2 hJ19_3 hJ19_4 H locs ls hw hl
      have hbj18 := i_bd j18
      refine lv_aload_n C.1 C.2.1 dX9_next_9 rfl (lv_at hl 1 rfl) ?_
      refine x_get C hw iwX9 8 rfl 1 rfl 4 (by decide) kw93 rfl dX9_next_10 ?_
      refine lv_aload_n C.1 C.2.1 dX9_next_13 rfl (lv_at hl 1 rfl) ?_
      refine x_get C hw iwX9 8 rfl 1 rfl 2 (by decide) kw91 rfl dX9_next_14 ?_
      have J43 : (tkS b qt_size.toInt qt_from.toInt = j18.toInt) → ∀ (H : Heap) (locs : List Loc) (ls : Array Slot), Wd G s A [(qt_keyCodes, eJ G 27 qt_keyCodes_c), (qt, .inr (8, [.ref qt_keyCodes, .ref qt_bytes, .int qt_size, .int qt_most, .int j18, .int qt_kind, .int qt_place, .int qt_value, .long qt_code, .int qt_key, .int qt_fault, .int qt_faultPlace])), (qt_bytes, eB G 940 qt_bytes_c)] H locs → lv_has ls 2 [(1, .int j17), (0, .ref qt)] → W p l e (rmD 2 0 0) s m args below meth c H locs 0 0 Q (F0 m 54 ls []) := by
        intro  hJ43_0 H locs ls hw hl
        have hS : tkS b qt_size.toInt qt_from.toInt = j18.toInt := by first | assumption | exact (show sc (blB b) qt_size.toInt j18.toInt = sc (blB b) qt_size.toInt qt_from.toInt by assumption).symm.trans (sc_stop (fun h9 => blB_f (by omega)))
        refine lv_aload_n C.1 C.2.1 dX9_next_54 rfl (lv_at hl 1 rfl) ?_
        refine lv_aload_n C.1 C.2.1 dX9_next_55 rfl (lv_at hl 1 rfl) ?_
        refine x_get C hw iwX9 8 rfl 1 rfl 4 (by decide) kw93 rfl dX9_next_56 ?_
        refine x_put (w' := [(qt_keyCodes, eJ G 27 qt_keyCodes_c), (qt, .inr (8, [.ref qt_keyCodes, .ref qt_bytes, .int qt_size, .int qt_most, .int j18, .int qt_kind, .int j18, .int qt_value, .long qt_code, .int qt_key, .int qt_fault, .int qt_faultPlace])), (qt_bytes, eB G 940 qt_bytes_c)]) C hw iwX9 tyX9_ok nmX9 8 rfl 1 rfl 6 (by decide) kw98 rfl rfl rfl (Nat.le_of_ble_eq_true rfl) rfl dX9_next_59 (fun H locs hw => ?_)
        refine lv_aload_n C.1 C.2.1 dX9_next_62 rfl (lv_at hl 1 rfl) ?_
        refine lv_iconst (v := 0) C.1 C.2.1 dX9_next_63 (by decide) ?_
        refine x_put (w' := [(qt_keyCodes, eJ G 27 qt_keyCodes_c), (qt, .inr (8, [.ref qt_keyCodes, .ref qt_bytes, .int qt_size, .int qt_most, .int j18, .int qt_kind, .int j18, .int 0, .long qt_code, .int qt_key, .int qt_fault, .int qt_faultPlace])), (qt_bytes, eB G 940 qt_bytes_c)]) C hw iwX9 tyX9_ok nmX9 8 rfl 1 rfl 7 (by decide) kw101 rfl rfl rfl (Nat.le_of_ble_eq_true rfl) rfl dX9_next_64 (fun H locs hw => ?_)
        refine lv_aload_n C.1 C.2.1 dX9_next_67 rfl (lv_at hl 1 rfl) ?_
        refine lv_lconst (v := 0) C.1 C.2.1 dX9_next_68 (by decide) ?_
        refine x_put (w' := [(qt_keyCodes, eJ G 27 qt_keyCodes_c), (qt, .inr (8, [.ref qt_keyCodes, .ref qt_bytes, .int qt_size, .int qt_most, .int j18, .int qt_kind, .int j18, .int 0, .long 0, .int qt_key, .int qt_fault, .int qt_faultPlace])), (qt_bytes, eB G 940 qt_bytes_c)]) C hw iwX9 tyX9_ok nmX9 8 rfl 1 rfl 8 (by decide) kw105 rfl rfl rfl (Nat.le_of_ble_eq_true rfl) rfl dX9_next_69 (fun H locs hw => ?_)
        refine lv_aload_n C.1 C.2.1 dX9_next_72 rfl (lv_at hl 1 rfl) ?_
        refine lv_iconst (v := (-1)) C.1 C.2.1 dX9_next_73 (by decide) ?_
        refine x_put (w' := [(qt_keyCodes, eJ G 27 qt_keyCodes_c), (qt, .inr (8, [.ref qt_keyCodes, .ref qt_bytes, .int qt_size, .int qt_most, .int j18, .int qt_kind, .int j18, .int 0, .long 0, .int (-1), .int qt_fault, .int qt_faultPlace])), (qt_bytes, eB G 940 qt_bytes_c)]) C hw iwX9 tyX9_ok nmX9 8 rfl 1 rfl 9 (by decide) kw109 rfl rfl rfl (Nat.le_of_ble_eq_true rfl) rfl dX9_next_74 (fun H locs hw => ?_)
        refine lv_aload_n C.1 C.2.1 dX9_next_77 rfl (lv_at hl 1 rfl) ?_
        refine x_get C hw iwX9 8 rfl 1 rfl 2 (by decide) kw91 rfl dX9_next_78 ?_
        refine lv_aload_n C.1 C.2.1 dX9_next_81 rfl (lv_at hl 1 rfl) ?_
        refine x_get C hw iwX9 8 rfl 1 rfl 3 (by decide) kw92 rfl dX9_next_82 ?_
        have J84 : (qt_size.toInt ≤ qt_most.toInt ∨ j18.toInt < qt_most.toInt) → ∀ (H : Heap) (locs : List Loc) (ls : Array Slot), Wd G s A [(qt_keyCodes, eJ G 27 qt_keyCodes_c), (qt, .inr (8, [.ref qt_keyCodes, .ref qt_bytes, .int qt_size, .int qt_most, .int j18, .int qt_kind, .int j18, .int 0, .long 0, .int (-1), .int qt_fault, .int qt_faultPlace])), (qt_bytes, eB G 940 qt_bytes_c)] H locs → lv_has ls 2 [(1, .int j17), (0, .ref qt)] → W p l e (rmD 2 0 0) s m args below meth c H locs 0 0 Q (F0 m 115 ls []) := by
          intro  hJ84_0 H locs ls hw hl
          refine lv_aload_n C.1 C.2.1 dX9_next_115 rfl (lv_at hl 1 rfl) ?_
          refine x_get C hw iwX9 8 rfl 1 rfl 4 (by decide) kw93 rfl dX9_next_116 ?_
          refine lv_aload_n C.1 C.2.1 dX9_next_119 rfl (lv_at hl 1 rfl) ?_
          refine x_get C hw iwX9 8 rfl 1 rfl 2 (by decide) kw91 rfl dX9_next_120 ?_
          refine lv_icmp_lt (tgt := 134) C.1 C.2.1 dX9_next_123 (by decide) (fun c120 => ?_) (fun c120 => ?_)
          · skip
            have c120 : j18.toInt < qt_size.toInt := i_ltT (X := j18.toInt) (Y := qt_size.toInt) rfl rfl c120
            refine lv_iload_n C.1 C.2.1 dX9_next_134 rfl (lv_at hl 0 rfl) ?_
            refine lv_bipush (v := 97) C.1 C.2.1 dX9_next_135 (by decide) ?_
            have J133 : (j17.toInt < 97 ∨ 122 < j17.toInt) → ∀ (H : Heap) (locs : List Loc) (ls : Array Slot), Wd G s A [(qt_keyCodes, eJ G 27 qt_keyCodes_c), (qt, .inr (8, [.ref qt_keyCodes, .ref qt_bytes, .int qt_size, .int qt_most, .int j18, .int qt_kind, .int j18, .int 0, .long 0, .int (-1), .int qt_fault, .int qt_faultPlace])), (qt_bytes, eB G 940 qt_bytes_c)] H locs → lv_has ls 2 [(1, .int j17), (0, .ref qt)] → W p l e (rmD 2 0 0) s m args below meth c H locs 0 0 Q (F0 m 146 ls []) := by
              intro  hJ133_0 H locs ls hw hl
              refine lv_iload_n C.1 C.2.1 dX9_next_146 rfl (lv_at hl 0 rfl) ?_
              refine lv_bipush (v := 48) C.1 C.2.1 dX9_next_147 (by decide) ?_
              have J167 : (¬ ((97 ≤ j17.toInt ∧ j17.toInt ≤ 122) ∨ (48 ≤ j17.toInt ∧ j17.toInt ≤ 57))) → ∀ (H : Heap) (locs : List Loc) (ls : Array Slot), Wd G s A [(qt_keyCodes, eJ G 27 qt_keyCodes_c), (qt, .inr (8, [.ref qt_keyCodes, .ref qt_bytes, .int qt_size, .int qt_most, .int j18, .int qt_kind, .int j18, .int 0, .long 0, .int (-1), .int qt_fault, .int qt_faultPlace])), (qt_bytes, eB G 940 qt_bytes_c)] H locs → lv_has ls 2 [(1, .int j17), (0, .ref qt)] → W p l e (rmD 2 0 0) s m args below meth c H locs 0 0 Q (F0 m 165 ls []) := by
                intro  hJ167_0 H locs ls hw hl
                refine lv_aload_n C.1 C.2.1 dX9_next_165 rfl (lv_at hl 1 rfl) ?_
                refine lv_iload_n C.1 C.2.1 dX9_next_166 rfl (lv_at hl 0 rfl) ?_
                refine lv_bipush (v := 59) C.1 C.2.1 dX9_next_167 (by decide) ?_
                have J182 : ((59 ≤ j17.toInt ∧ j17.toInt ≤ 62) ∨ j17.toInt = 40 ∨ j17.toInt = 41) → ∀ (H : Heap) (locs : List Loc) (ls : Array Slot), Wd G s A [(qt_keyCodes, eJ G 27 qt_keyCodes_c), (qt, .inr (8, [.ref qt_keyCodes, .ref qt_bytes, .int qt_size, .int qt_most, .int j18, .int qt_kind, .int j18, .int 0, .long 0, .int (-1), .int qt_fault, .int qt_faultPlace])), (qt_bytes, eB G 940 qt_bytes_c)] H locs → lv_has ls 2 [(1, .int j17), (0, .ref qt)] → W p l e (rmD 2 0 0) s m args below meth c H locs 0 0 Q (F0 m 190 ls [.ref qt]) := by
                  intro  hJ182_0 H locs ls hw hl
                  refine lv_iconst (v := 5) C.1 C.2.1 dX9_next_190 (by decide) ?_
                  refine lv_goto (tgt := 195) C.1 C.2.1 dX9_next_191 (by decide) ?_
                  refine x_put (w' := [(qt_keyCodes, eJ G 27 qt_keyCodes_c), (qt, .inr (8, [.ref qt_keyCodes, .ref qt_bytes, .int qt_size, .int qt_most, .int j18, .int 5, .int j18, .int 0, .long 0, .int (-1), .int qt_fault, .int qt_faultPlace])), (qt_bytes, eB G 940 qt_bytes_c)]) C hw iwX9 tyX9_ok nmX9 8 rfl 1 rfl 5 (by decide) kw97 rfl rfl rfl (Nat.le_of_ble_eq_true rfl) rfl dX9_next_195 (fun H locs hw => ?_)
                  refine lv_aload_n C.1 C.2.1 dX9_next_198 rfl (lv_at hl 1 rfl) ?_
                  refine lv_iload_n C.1 C.2.1 dX9_next_199 rfl (lv_at hl 0 rfl) ?_
                  refine x_put (w' := [(qt_keyCodes, eJ G 27 qt_keyCodes_c), (qt, .inr (8, [.ref qt_keyCodes, .ref qt_bytes, .int qt_size, .int qt_most, .int j18, .int 5, .int j18, .int j17, .long 0, .int (-1), .int qt_fault, .int qt_faultPlace])), (qt_bytes, eB G 940 qt_bytes_c)]) C hw iwX9 tyX9_ok nmX9 8 rfl 1 rfl 7 (by decide) kw101 rfl rfl rfl (Nat.le_of_ble_eq_true rfl) rfl dX9_next_200 (fun H locs hw => ?_)
                  refine lv_aload_n C.1 C.2.1 dX9_next_203 rfl (lv_at hl 1 rfl) ?_
                  refine lv_dup C.1 C.2.1 dX9_next_204 rfl ?_
                  refine x_get C hw iwX9 8 rfl 1 rfl 4 (by decide) kw93 rfl dX9_next_205 ?_
                  refine lv_iconst (v := 1) C.1 C.2.1 dX9_next_208 (by decide) ?_
                  refine lv_iadd C.1 C.2.1 dX9_next_209 (x_genP (fun z : Int32 => z.toInt = j18.toInt + 1) (i_add (X := j18.toInt) (Y := 1) rfl rfl (by omega) (by omega)) (fun v184 hv184 => ?_))
                  refine x_put (w' := [(qt_keyCodes, eJ G 27 qt_keyCodes_c), (qt, .inr (8, [.ref qt_keyCodes, .ref qt_bytes, .int qt_size, .int qt_most, .int v184, .int 5, .int j18, .int j17, .long 0, .int (-1), .int qt_fault, .int qt_faultPlace])), (qt_bytes, eB G 940 qt_bytes_c)]) C hw iwX9 tyX9_ok nmX9 8 rfl 1 rfl 4 (by decide) kw93 rfl rfl rfl (Nat.le_of_ble_eq_true rfl) rfl dX9_next_210 (fun H locs hw => ?_)
                  have hK : tkK b qt_size.toInt qt_most.toInt qt_from.toInt = 4 := by unfold tkK; rw [hS]; (repeat first | rw [if_pos (by omega)] | rw [if_neg (by omega)]); all_goals omega
                  have hG : tkG b qt_size.toInt qt_from.toInt = j17.toInt := by unfold tkG; rw [hS]; omega
                  have hX : tkX b qt_size.toInt qt_most.toInt qt_from.toInt = v184.toInt := by unfold tkX; rw [hS]; (repeat first | rw [if_pos (by omega)] | rw [if_neg (by omega)]); all_goals (first | rfl | omega)
                  have hP : tkP b qt_size.toInt qt_most.toInt qt_from.toInt = j18.toInt := by unfold tkP; rw [hS]; (repeat first | rw [if_pos (by omega)] | rw [if_neg (by omega)]); all_goals (first | rfl | omega)
                  have hw := hw.sub (w' := [(qt, .inr (8, [.ref qt_keyCodes, .ref qt_bytes, .int qt_size, .int qt_most, .int v184, .int 5, .int j18, .int j17, .long 0, .int (-1), .int qt_fault, .int qt_faultPlace])), (qt_keyCodes, eJ G 27 qt_keyCodes_c), (qt_bytes, eB G 940 qt_bytes_c)]) [1, 0, 2] rfl rfl
                  exact x_retvQ hQ B hw ⟨v184, 5, j18, j17, 0, (-1), rfl, (by omega), (by decide), (by omega), (by decide), (by have e0 : ((-1) : Int32).toInt = (-1) := rfl; have e1 : (0 : Int32).toInt = 0 := rfl; have e2 : (5 : Int32).toInt = 5 := rfl; first | omega), (by have e0 : ((-1) : Int32).toInt = (-1) := rfl; have e1 : (0 : Int32).toInt = 0 := rfl; have e2 : (5 : Int32).toInt = 5 := rfl; first | omega), (by have e0 : ((-1) : Int32).toInt = (-1) := rfl; have e1 : (0 : Int32).toInt = 0 := rfl; have e2 : (5 : Int32).toInt = 5 := rfl; first | omega), (by have e0 : ((-1) : Int32).toInt = (-1) := rfl; have e1 : (0 : Int32).toInt = 0 := rfl; have e2 : (5 : Int32).toInt = 5 := rfl; first | omega), (by have e0 : ((-1) : Int32).toInt = (-1) := rfl; have e1 : (0 : Int32).toInt = 0 := rfl; have e2 : (5 : Int32).toInt = 5 := rfl; first | omega), (by have e0 : ((-1) : Int32).toInt = (-1) := rfl; have e1 : (0 : Int32).toInt = 0 := rfl; have e2 : (5 : Int32).toInt = 5 := rfl; first | omega), (by have e0 : ((-1) : Int32).toInt = (-1) := rfl; have e1 : (0 : Int32).toInt = 0 := rfl; have e2 : (5 : Int32).toInt = 5 := rfl; first | omega)⟩ (Nat.le_of_ble_eq_true rfl) (Nat.le_of_ble_eq_true rfl) dX9_next_213
                have J178 : (j17.toInt < 59 ∨ 62 < j17.toInt) → ∀ (H : Heap) (locs : List Loc) (ls : Array Slot), Wd G s A [(qt_keyCodes, eJ G 27 qt_keyCodes_c), (qt, .inr (8, [.ref qt_keyCodes, .ref qt_bytes, .int qt_size, .int qt_most, .int j18, .int qt_kind, .int j18, .int 0, .long 0, .int (-1), .int qt_fault, .int qt_faultPlace])), (qt_bytes, eB G 940 qt_bytes_c)] H locs → lv_has ls 2 [(1, .int j17), (0, .ref qt)] → W p l e (rmD 2 0 0) s m args below meth c H locs 0 0 Q (F0 m 178 ls [.ref qt]) := by
                  intro  hJ178_0 H locs ls hw hl
                  refine lv_iload_n C.1 C.2.1 dX9_next_178 rfl (lv_at hl 0 rfl) ?_
                  refine lv_bipush (v := 40) C.1 C.2.1 dX9_next_179 (by decide) ?_
                  refine lv_icmp_eq (tgt := 190) C.1 C.2.1 dX9_next_181 (by decide) (fun c185 => ?_) (fun c185 => ?_)
                  · skip
                    have c185 : j17.toInt = 40 := i_eqT (X := j17.toInt) (Y := 40) rfl rfl c185
                    exact J182   (by first | assumption | omega) _ _ _ hw (lv_sub hl [0, 1] rfl)
                  · skip
                    have c185 : j17.toInt ≠ 40 := i_eqF (X := j17.toInt) (Y := 40) rfl rfl c185
                    refine lv_iload_n C.1 C.2.1 dX9_next_184 rfl (lv_at hl 0 rfl) ?_
                    refine lv_bipush (v := 41) C.1 C.2.1 dX9_next_185 (by decide) ?_
                    refine lv_icmp_ne (tgt := 194) C.1 C.2.1 dX9_next_187 (by decide) (fun c186 => ?_) (fun c186 => ?_)
                    · skip
                      have c186 : j17.toInt ≠ 41 := i_eqF (X := j17.toInt) (Y := 41) rfl rfl c186
                      refine lv_iconst (v := 1) C.1 C.2.1 dX9_next_194 (by decide) ?_
                      refine x_put (w' := [(qt_keyCodes, eJ G 27 qt_keyCodes_c), (qt, .inr (8, [.ref qt_keyCodes, .ref qt_bytes, .int qt_size, .int qt_most, .int j18, .int 1, .int j18, .int 0, .long 0, .int (-1), .int qt_fault, .int qt_faultPlace])), (qt_bytes, eB G 940 qt_bytes_c)]) C hw iwX9 tyX9_ok nmX9 8 rfl 1 rfl 5 (by decide) kw97 rfl rfl rfl (Nat.le_of_ble_eq_true rfl) rfl dX9_next_195 (fun H locs hw => ?_)
                      refine lv_aload_n C.1 C.2.1 dX9_next_198 rfl (lv_at hl 1 rfl) ?_
                      refine lv_iload_n C.1 C.2.1 dX9_next_199 rfl (lv_at hl 0 rfl) ?_
                      refine x_put (w' := [(qt_keyCodes, eJ G 27 qt_keyCodes_c), (qt, .inr (8, [.ref qt_keyCodes, .ref qt_bytes, .int qt_size, .int qt_most, .int j18, .int 1, .int j18, .int j17, .long 0, .int (-1), .int qt_fault, .int qt_faultPlace])), (qt_bytes, eB G 940 qt_bytes_c)]) C hw iwX9 tyX9_ok nmX9 8 rfl 1 rfl 7 (by decide) kw101 rfl rfl rfl (Nat.le_of_ble_eq_true rfl) rfl dX9_next_200 (fun H locs hw => ?_)
                      refine lv_aload_n C.1 C.2.1 dX9_next_203 rfl (lv_at hl 1 rfl) ?_
                      refine lv_dup C.1 C.2.1 dX9_next_204 rfl ?_
                      refine x_get C hw iwX9 8 rfl 1 rfl 4 (by decide) kw93 rfl dX9_next_205 ?_
                      refine lv_iconst (v := 1) C.1 C.2.1 dX9_next_208 (by decide) ?_
                      refine lv_iadd C.1 C.2.1 dX9_next_209 (x_genP (fun z : Int32 => z.toInt = j18.toInt + 1) (i_add (X := j18.toInt) (Y := 1) rfl rfl (by omega) (by omega)) (fun v187 hv187 => ?_))
                      refine x_put (w' := [(qt_keyCodes, eJ G 27 qt_keyCodes_c), (qt, .inr (8, [.ref qt_keyCodes, .ref qt_bytes, .int qt_size, .int qt_most, .int v187, .int 1, .int j18, .int j17, .long 0, .int (-1), .int qt_fault, .int qt_faultPlace])), (qt_bytes, eB G 940 qt_bytes_c)]) C hw iwX9 tyX9_ok nmX9 8 rfl 1 rfl 4 (by decide) kw93 rfl rfl rfl (Nat.le_of_ble_eq_true rfl) rfl dX9_next_210 (fun H locs hw => ?_)
                      have hK : tkK b qt_size.toInt qt_most.toInt qt_from.toInt = 1 := by unfold tkK; rw [hS]; (repeat first | rw [if_pos (by omega)] | rw [if_neg (by omega)]); all_goals omega
                      have hX : tkX b qt_size.toInt qt_most.toInt qt_from.toInt = v187.toInt := by unfold tkX; rw [hS]; (repeat first | rw [if_pos (by omega)] | rw [if_neg (by omega)]); all_goals (first | rfl | omega)
                      have hP : tkP b qt_size.toInt qt_most.toInt qt_from.toInt = j18.toInt := by unfold tkP; rw [hS]; (repeat first | rw [if_pos (by omega)] | rw [if_neg (by omega)]); all_goals (first | rfl | omega)
                      have hw := hw.sub (w' := [(qt, .inr (8, [.ref qt_keyCodes, .ref qt_bytes, .int qt_size, .int qt_most, .int v187, .int 1, .int j18, .int j17, .long 0, .int (-1), .int qt_fault, .int qt_faultPlace])), (qt_keyCodes, eJ G 27 qt_keyCodes_c), (qt_bytes, eB G 940 qt_bytes_c)]) [1, 0, 2] rfl rfl
                      exact x_retvQ hQ B hw ⟨v187, 1, j18, j17, 0, (-1), rfl, (by omega), (by decide), (by omega), (by decide), (by have e0 : ((-1) : Int32).toInt = (-1) := rfl; have e1 : (0 : Int32).toInt = 0 := rfl; have e2 : (1 : Int32).toInt = 1 := rfl; first | omega), (by have e0 : ((-1) : Int32).toInt = (-1) := rfl; have e1 : (0 : Int32).toInt = 0 := rfl; have e2 : (1 : Int32).toInt = 1 := rfl; first | omega), (by have e0 : ((-1) : Int32).toInt = (-1) := rfl; have e1 : (0 : Int32).toInt = 0 := rfl; have e2 : (1 : Int32).toInt = 1 := rfl; first | omega), (by have e0 : ((-1) : Int32).toInt = (-1) := rfl; have e1 : (0 : Int32).toInt = 0 := rfl; have e2 : (1 : Int32).toInt = 1 := rfl; first | omega), (by have e0 : ((-1) : Int32).toInt = (-1) := rfl; have e1 : (0 : Int32).toInt = 0 := rfl; have e2 : (1 : Int32).toInt = 1 := rfl; first | omega), (by have e0 : ((-1) : Int32).toInt = (-1) := rfl; have e1 : (0 : Int32).toInt = 0 := rfl; have e2 : (1 : Int32).toInt = 1 := rfl; first | omega), (by have e0 : ((-1) : Int32).toInt = (-1) := rfl; have e1 : (0 : Int32).toInt = 0 := rfl; have e2 : (1 : Int32).toInt = 1 := rfl; first | omega)⟩ (Nat.le_of_ble_eq_true rfl) (Nat.le_of_ble_eq_true rfl) dX9_next_213
                    · skip
                      have c186 : j17.toInt = 41 := i_eqT (X := j17.toInt) (Y := 41) rfl rfl c186
                      exact J182   (by first | assumption | omega) _ _ _ hw (lv_sub hl [0, 1] rfl)
                refine lv_icmp_lt (tgt := 178) C.1 C.2.1 dX9_next_169 (by decide) (fun c176 => ?_) (fun c176 => ?_)
                · skip
                  have c176 : j17.toInt < 59 := i_ltT (X := j17.toInt) (Y := 59) rfl rfl c176
                  exact J178   (by first | assumption | omega) _ _ _ hw (lv_sub hl [0, 1] rfl)
                · skip
                  have c176 : 59 ≤ j17.toInt := i_ltF (X := j17.toInt) (Y := 59) rfl rfl c176
                  refine lv_iload_n C.1 C.2.1 dX9_next_172 rfl (lv_at hl 0 rfl) ?_
                  refine lv_bipush (v := 62) C.1 C.2.1 dX9_next_173 (by decide) ?_
                  refine lv_icmp_le (tgt := 190) C.1 C.2.1 dX9_next_175 (by decide) (fun c188 => ?_) (fun c188 => ?_)
                  · skip
                    have c188 : j17.toInt ≤ 62 := i_leT (X := j17.toInt) (Y := 62) rfl rfl c188
                    exact J182   (by first | assumption | omega) _ _ _ hw (lv_sub hl [0, 1] rfl)
                  · skip
                    have c188 : 62 < j17.toInt := i_leF (X := j17.toInt) (Y := 62) rfl rfl c188
                    exact J178   (by first | assumption | omega) _ _ _ hw (lv_sub hl [0, 1] rfl)
              refine lv_icmp_lt (tgt := 165) C.1 C.2.1 dX9_next_149 (by decide) (fun c155 => ?_) (fun c155 => ?_)
              · skip
                have c155 : j17.toInt < 48 := i_ltT (X := j17.toInt) (Y := 48) rfl rfl c155
                exact J167   (by first | assumption | omega) _ _ _ hw (lv_sub hl [0, 1] rfl)
              · skip
                have c155 : 48 ≤ j17.toInt := i_ltF (X := j17.toInt) (Y := 48) rfl rfl c155
                refine lv_iload_n C.1 C.2.1 dX9_next_152 rfl (lv_at hl 0 rfl) ?_
                refine lv_bipush (v := 57) C.1 C.2.1 dX9_next_153 (by decide) ?_
                refine lv_icmp_gt (tgt := 165) C.1 C.2.1 dX9_next_155 (by decide) (fun c189 => ?_) (fun c189 => ?_)
                · skip
                  have c189 : 57 < j17.toInt := i_ltT (X := 57) (Y := j17.toInt) rfl rfl c189
                  exact J167   (by first | assumption | omega) _ _ _ hw (lv_sub hl [0, 1] rfl)
                · skip
                  have c189 : j17.toInt ≤ 57 := i_ltF (X := 57) (Y := j17.toInt) rfl rfl c189
                  refine lv_aload_n C.1 C.2.1 dX9_next_158 rfl (lv_at hl 1 rfl) ?_
                  refine x_callvV (As := []) (rest := []) (wr := []) C hw (e_X9_readRun qt qt_keyCodes qt_bytes qt_size qt_most j18 qt_kind j18 qt_fault qt_faultPlace qt_keyCodes_c qt_bytes_c b (by omega) (by omega) (by omega) hr_0 hr_1) mwX9_readRun kw534 [1, 0, 2] [] rfl rfl rfl rfl (by decide) 0 rfl rfl rfl rfl hl.1 rfl (Nat.le_of_ble_eq_true rfl) ⟨(Nat.le_of_ble_eq_true rfl), (Nat.le_of_ble_eq_true rfl)⟩ ⟨(Nat.le_of_ble_eq_true rfl), (Nat.le_of_ble_eq_true rfl)⟩ dX9_next_159 (fun  u9 H locs hp9 hw => ?_)
                  obtain ⟨x190, x191, x192, x193, x194, rfl, hf195, hf196, hf197, hf198, hf199⟩ := hp9
                  have hw : Wd G s A [(qt, .inr (8, [.ref qt_keyCodes, .ref qt_bytes, .int qt_size, .int qt_most, .int x190, .int x191, .int j18, .int x192, .long x193, .int x194, .int qt_fault, .int qt_faultPlace])), (qt_keyCodes, eJ G 27 qt_keyCodes_c), (qt_bytes, eB G 940 qt_bytes_c)] H _ := hw
                  have hQt : tkQ b qt_size.toInt qt_from.toInt = x190.toInt := by unfold tkQ; rw [hS]; exact hf198.symm
                  have hC : tkC b qt_size.toInt qt_from.toInt = (sc (wdB b) qt_size.toInt j18.toInt - j18.toInt).toNat := by unfold tkC tkQ; rw [hS]
                  rcases hf199 with h2 | h2 | h2
                  · skip
                    have hK : tkK b qt_size.toInt qt_most.toInt qt_from.toInt = 2 := by unfold tkK; rw [hS, hC]; (repeat first | rw [if_pos (by omega)] | rw [if_neg (by omega)]); all_goals omega
                    obtain ⟨hW1, hW2⟩ := run_word hr_1 hS hK h2.2.1 h2.2.2.1
                    refine lv_goto (tgt := 213) C.1 C.2.1 dX9_next_162 (by decide) ?_
                    have hX : tkX b qt_size.toInt qt_most.toInt qt_from.toInt = x190.toInt := by unfold tkX; rw [hS]; (repeat first | rw [if_pos (by omega)] | rw [if_neg (by omega)]); all_goals (first | rfl | omega)
                    have hP : tkP b qt_size.toInt qt_most.toInt qt_from.toInt = j18.toInt := by unfold tkP; rw [hS]; (repeat first | rw [if_pos (by omega)] | rw [if_neg (by omega)]); all_goals (first | rfl | omega)
                    exact x_retvQ hQ B hw ⟨x190, x191, j18, x192, x193, x194, rfl, (by omega), (by omega), (by omega), (by omega), (by first | omega), (by first | omega), (by first | omega), (by first | omega), (by first | omega), (by first | omega), (by first | omega)⟩ (Nat.le_of_ble_eq_true rfl) (Nat.le_of_ble_eq_true rfl) dX9_next_213
                  · skip
                    have hK : tkK b qt_size.toInt qt_most.toInt qt_from.toInt = 3 := by unfold tkK; rw [hS, hC]; (repeat first | rw [if_pos (by omega)] | rw [if_neg (by omega)]); all_goals omega
                    have hN := run_num hS h2.2.2.1
                    refine lv_goto (tgt := 213) C.1 C.2.1 dX9_next_162 (by decide) ?_
                    have hX : tkX b qt_size.toInt qt_most.toInt qt_from.toInt = x190.toInt := by unfold tkX; rw [hS]; (repeat first | rw [if_pos (by omega)] | rw [if_neg (by omega)]); all_goals (first | rfl | omega)
                    have hP : tkP b qt_size.toInt qt_most.toInt qt_from.toInt = j18.toInt := by unfold tkP; rw [hS]; (repeat first | rw [if_pos (by omega)] | rw [if_neg (by omega)]); all_goals (first | rfl | omega)
                    exact x_retvQ hQ B hw ⟨x190, x191, j18, x192, x193, x194, rfl, (by omega), (by omega), (by omega), (by omega), (by first | omega), (by first | omega), (by first | omega), (by first | omega), (by first | omega), (by first | omega), (by first | omega)⟩ (Nat.le_of_ble_eq_true rfl) (Nat.le_of_ble_eq_true rfl) dX9_next_213
                  · skip
                    have hK : tkK b qt_size.toInt qt_most.toInt qt_from.toInt = 1 := by unfold tkK; rw [hS, hC]; (repeat first | rw [if_pos (by omega)] | rw [if_neg (by omega)]); all_goals omega
                    refine lv_goto (tgt := 213) C.1 C.2.1 dX9_next_162 (by decide) ?_
                    have hX : tkX b qt_size.toInt qt_most.toInt qt_from.toInt = x190.toInt := by unfold tkX; rw [hS]; (repeat first | rw [if_pos (by omega)] | rw [if_neg (by omega)]); all_goals (first | rfl | omega)
                    have hP : tkP b qt_size.toInt qt_most.toInt qt_from.toInt = j18.toInt := by unfold tkP; rw [hS]; (repeat first | rw [if_pos (by omega)] | rw [if_neg (by omega)]); all_goals (first | rfl | omega)
                    exact x_retvQ hQ B hw ⟨x190, x191, j18, x192, x193, x194, rfl, (by omega), (by omega), (by omega), (by omega), (by first | omega), (by first | omega), (by first | omega), (by first | omega), (by first | omega), (by first | omega), (by first | omega)⟩ (Nat.le_of_ble_eq_true rfl) (Nat.le_of_ble_eq_true rfl) dX9_next_213
            refine lv_icmp_lt (tgt := 146) C.1 C.2.1 dX9_next_137 (by decide) (fun c121 => ?_) (fun c121 => ?_)
            · skip
              have c121 : j17.toInt < 97 := i_ltT (X := j17.toInt) (Y := 97) rfl rfl c121
              exact J133   (by first | assumption | omega) _ _ _ hw (lv_sub hl [0, 1] rfl)
            · skip
              have c121 : 97 ≤ j17.toInt := i_ltF (X := j17.toInt) (Y := 97) rfl rfl c121
              refine lv_iload_n C.1 C.2.1 dX9_next_140 rfl (lv_at hl 0 rfl) ?_
              refine lv_bipush (v := 122) C.1 C.2.1 dX9_next_141 (by decide) ?_
              refine lv_icmp_le (tgt := 158) C.1 C.2.1 dX9_next_143 (by decide) (fun c200 => ?_) (fun c200 => ?_)
              · skip
                have c200 : j17.toInt ≤ 122 := i_leT (X := j17.toInt) (Y := 122) rfl rfl c200
                refine lv_aload_n C.1 C.2.1 dX9_next_158 rfl (lv_at hl 1 rfl) ?_
                refine x_callvV (As := []) (rest := []) (wr := []) C hw (e_X9_readRun qt qt_keyCodes qt_bytes qt_size qt_most j18 qt_kind j18 qt_fault qt_faultPlace qt_keyCodes_c qt_bytes_c b (by omega) (by omega) (by omega) hr_0 hr_1) mwX9_readRun kw534 [1, 0, 2] [] rfl rfl rfl rfl (by decide) 0 rfl rfl rfl rfl hl.1 rfl (Nat.le_of_ble_eq_true rfl) ⟨(Nat.le_of_ble_eq_true rfl), (Nat.le_of_ble_eq_true rfl)⟩ ⟨(Nat.le_of_ble_eq_true rfl), (Nat.le_of_ble_eq_true rfl)⟩ dX9_next_159 (fun  u9 H locs hp9 hw => ?_)
                obtain ⟨x201, x202, x203, x204, x205, rfl, hf206, hf207, hf208, hf209, hf210⟩ := hp9
                have hw : Wd G s A [(qt, .inr (8, [.ref qt_keyCodes, .ref qt_bytes, .int qt_size, .int qt_most, .int x201, .int x202, .int j18, .int x203, .long x204, .int x205, .int qt_fault, .int qt_faultPlace])), (qt_keyCodes, eJ G 27 qt_keyCodes_c), (qt_bytes, eB G 940 qt_bytes_c)] H _ := hw
                have hQt : tkQ b qt_size.toInt qt_from.toInt = x201.toInt := by unfold tkQ; rw [hS]; exact hf209.symm
                have hC : tkC b qt_size.toInt qt_from.toInt = (sc (wdB b) qt_size.toInt j18.toInt - j18.toInt).toNat := by unfold tkC tkQ; rw [hS]
                rcases hf210 with h2 | h2 | h2
                · skip
                  have hK : tkK b qt_size.toInt qt_most.toInt qt_from.toInt = 2 := by unfold tkK; rw [hS, hC]; (repeat first | rw [if_pos (by omega)] | rw [if_neg (by omega)]); all_goals omega
                  obtain ⟨hW1, hW2⟩ := run_word hr_1 hS hK h2.2.1 h2.2.2.1
                  refine lv_goto (tgt := 213) C.1 C.2.1 dX9_next_162 (by decide) ?_
                  have hX : tkX b qt_size.toInt qt_most.toInt qt_from.toInt = x201.toInt := by unfold tkX; rw [hS]; (repeat first | rw [if_pos (by omega)] | rw [if_neg (by omega)]); all_goals (first | rfl | omega)
                  have hP : tkP b qt_size.toInt qt_most.toInt qt_from.toInt = j18.toInt := by unfold tkP; rw [hS]; (repeat first | rw [if_pos (by omega)] | rw [if_neg (by omega)]); all_goals (first | rfl | omega)
                  exact x_retvQ hQ B hw ⟨x201, x202, j18, x203, x204, x205, rfl, (by omega), (by omega), (by omega), (by omega), (by first | omega), (by first | omega), (by first | omega), (by first | omega), (by first | omega), (by first | omega), (by first | omega)⟩ (Nat.le_of_ble_eq_true rfl) (Nat.le_of_ble_eq_true rfl) dX9_next_213
                · skip
                  have hK : tkK b qt_size.toInt qt_most.toInt qt_from.toInt = 3 := by unfold tkK; rw [hS, hC]; (repeat first | rw [if_pos (by omega)] | rw [if_neg (by omega)]); all_goals omega
                  have hN := run_num hS h2.2.2.1
                  refine lv_goto (tgt := 213) C.1 C.2.1 dX9_next_162 (by decide) ?_
                  have hX : tkX b qt_size.toInt qt_most.toInt qt_from.toInt = x201.toInt := by unfold tkX; rw [hS]; (repeat first | rw [if_pos (by omega)] | rw [if_neg (by omega)]); all_goals (first | rfl | omega)
                  have hP : tkP b qt_size.toInt qt_most.toInt qt_from.toInt = j18.toInt := by unfold tkP; rw [hS]; (repeat first | rw [if_pos (by omega)] | rw [if_neg (by omega)]); all_goals (first | rfl | omega)
                  exact x_retvQ hQ B hw ⟨x201, x202, j18, x203, x204, x205, rfl, (by omega), (by omega), (by omega), (by omega), (by first | omega), (by first | omega), (by first | omega), (by first | omega), (by first | omega), (by first | omega), (by first | omega)⟩ (Nat.le_of_ble_eq_true rfl) (Nat.le_of_ble_eq_true rfl) dX9_next_213
                · skip
                  have hK : tkK b qt_size.toInt qt_most.toInt qt_from.toInt = 1 := by unfold tkK; rw [hS, hC]; (repeat first | rw [if_pos (by omega)] | rw [if_neg (by omega)]); all_goals omega
                  refine lv_goto (tgt := 213) C.1 C.2.1 dX9_next_162 (by decide) ?_
                  have hX : tkX b qt_size.toInt qt_most.toInt qt_from.toInt = x201.toInt := by unfold tkX; rw [hS]; (repeat first | rw [if_pos (by omega)] | rw [if_neg (by omega)]); all_goals (first | rfl | omega)
                  have hP : tkP b qt_size.toInt qt_most.toInt qt_from.toInt = j18.toInt := by unfold tkP; rw [hS]; (repeat first | rw [if_pos (by omega)] | rw [if_neg (by omega)]); all_goals (first | rfl | omega)
                  exact x_retvQ hQ B hw ⟨x201, x202, j18, x203, x204, x205, rfl, (by omega), (by omega), (by omega), (by omega), (by first | omega), (by first | omega), (by first | omega), (by first | omega), (by first | omega), (by first | omega), (by first | omega)⟩ (Nat.le_of_ble_eq_true rfl) (Nat.le_of_ble_eq_true rfl) dX9_next_213
              · skip
                have c200 : 122 < j17.toInt := i_leF (X := j17.toInt) (Y := 122) rfl rfl c200
                exact J133   (by first | assumption | omega) _ _ _ hw (lv_sub hl [0, 1] rfl)
          · skip
            have c120 : qt_size.toInt ≤ j18.toInt := i_ltF (X := j18.toInt) (Y := qt_size.toInt) rfl rfl c120
            refine lv_aload_n C.1 C.2.1 dX9_next_126 rfl (lv_at hl 1 rfl) ?_
            refine lv_iconst (v := 0) C.1 C.2.1 dX9_next_127 (by decide) ?_
            refine x_put (w' := [(qt_keyCodes, eJ G 27 qt_keyCodes_c), (qt, .inr (8, [.ref qt_keyCodes, .ref qt_bytes, .int qt_size, .int qt_most, .int j18, .int 0, .int j18, .int 0, .long 0, .int (-1), .int qt_fault, .int qt_faultPlace])), (qt_bytes, eB G 940 qt_bytes_c)]) C hw iwX9 tyX9_ok nmX9 8 rfl 1 rfl 5 (by decide) kw97 rfl rfl rfl (Nat.le_of_ble_eq_true rfl) rfl dX9_next_128 (fun H locs hw => ?_)
            refine lv_goto (tgt := 213) C.1 C.2.1 dX9_next_131 (by decide) ?_
            have hK : tkK b qt_size.toInt qt_most.toInt qt_from.toInt = 0 := by unfold tkK; rw [hS]; (repeat first | rw [if_pos (by omega)] | rw [if_neg (by omega)]); all_goals omega
            have hX : tkX b qt_size.toInt qt_most.toInt qt_from.toInt = j18.toInt := by unfold tkX; rw [hS]; (repeat first | rw [if_pos (by omega)] | rw [if_neg (by omega)]); all_goals (first | rfl | omega)
            have hP : tkP b qt_size.toInt qt_most.toInt qt_from.toInt = j18.toInt := by unfold tkP; rw [hS]; (repeat first | rw [if_pos (by omega)] | rw [if_neg (by omega)]); all_goals (first | rfl | omega)
            have hw := hw.sub (w' := [(qt, .inr (8, [.ref qt_keyCodes, .ref qt_bytes, .int qt_size, .int qt_most, .int j18, .int 0, .int j18, .int 0, .long 0, .int (-1), .int qt_fault, .int qt_faultPlace])), (qt_keyCodes, eJ G 27 qt_keyCodes_c), (qt_bytes, eB G 940 qt_bytes_c)]) [1, 0, 2] rfl rfl
            exact x_retvQ hQ B hw ⟨j18, 0, j18, 0, 0, (-1), rfl, (by omega), (by decide), (by omega), (by decide), (by have e0 : ((-1) : Int32).toInt = (-1) := rfl; have e1 : (0 : Int32).toInt = 0 := rfl; first | omega), (by have e0 : ((-1) : Int32).toInt = (-1) := rfl; have e1 : (0 : Int32).toInt = 0 := rfl; first | omega), (by have e0 : ((-1) : Int32).toInt = (-1) := rfl; have e1 : (0 : Int32).toInt = 0 := rfl; first | omega), (by have e0 : ((-1) : Int32).toInt = (-1) := rfl; have e1 : (0 : Int32).toInt = 0 := rfl; first | omega), (by have e0 : ((-1) : Int32).toInt = (-1) := rfl; have e1 : (0 : Int32).toInt = 0 := rfl; first | omega), (by have e0 : ((-1) : Int32).toInt = (-1) := rfl; have e1 : (0 : Int32).toInt = 0 := rfl; first | omega), (by have e0 : ((-1) : Int32).toInt = (-1) := rfl; have e1 : (0 : Int32).toInt = 0 := rfl; first | omega)⟩ (Nat.le_of_ble_eq_true rfl) (Nat.le_of_ble_eq_true rfl) dX9_next_213
        refine lv_icmp_le (tgt := 115) C.1 C.2.1 dX9_next_85 (by decide) (fun c82 => ?_) (fun c82 => ?_)
        · skip
          have c82 : qt_size.toInt ≤ qt_most.toInt := i_leT (X := qt_size.toInt) (Y := qt_most.toInt) rfl rfl c82
          exact J84   (by first | assumption | omega) _ _ _ hw (lv_sub hl [0, 1] rfl)
        · skip
          have c82 : qt_most.toInt < qt_size.toInt := i_leF (X := qt_size.toInt) (Y := qt_most.toInt) rfl rfl c82
          refine lv_aload_n C.1 C.2.1 dX9_next_88 rfl (lv_at hl 1 rfl) ?_
          refine x_get C hw iwX9 8 rfl 1 rfl 4 (by decide) kw93 rfl dX9_next_89 ?_
          refine lv_aload_n C.1 C.2.1 dX9_next_92 rfl (lv_at hl 1 rfl) ?_
          refine x_get C hw iwX9 8 rfl 1 rfl 3 (by decide) kw92 rfl dX9_next_93 ?_
          refine lv_icmp_lt (tgt := 115) C.1 C.2.1 dX9_next_96 (by decide) (fun c211 => ?_) (fun c211 => ?_)
          · skip
            have c211 : j18.toInt < qt_most.toInt := i_ltT (X := j18.toInt) (Y := qt_most.toInt) rfl rfl c211
            exact J84   (by first | assumption | omega) _ _ _ hw (lv_sub hl [0, 1] rfl)
          · skip
            have c211 : qt_most.toInt ≤ j18.toInt := i_ltF (X := j18.toInt) (Y := qt_most.toInt) rfl rfl c211
            refine lv_aload_n C.1 C.2.1 dX9_next_99 rfl (lv_at hl 1 rfl) ?_
            refine lv_iconst (v := 1) C.1 C.2.1 dX9_next_100 (by decide) ?_
            refine x_put (w' := [(qt_keyCodes, eJ G 27 qt_keyCodes_c), (qt, .inr (8, [.ref qt_keyCodes, .ref qt_bytes, .int qt_size, .int qt_most, .int j18, .int 1, .int j18, .int 0, .long 0, .int (-1), .int qt_fault, .int qt_faultPlace])), (qt_bytes, eB G 940 qt_bytes_c)]) C hw iwX9 tyX9_ok nmX9 8 rfl 1 rfl 5 (by decide) kw97 rfl rfl rfl (Nat.le_of_ble_eq_true rfl) rfl dX9_next_101 (fun H locs hw => ?_)
            refine lv_aload_n C.1 C.2.1 dX9_next_104 rfl (lv_at hl 1 rfl) ?_
            refine lv_aload_n C.1 C.2.1 dX9_next_105 rfl (lv_at hl 1 rfl) ?_
            refine x_get C hw iwX9 8 rfl 1 rfl 3 (by decide) kw92 rfl dX9_next_106 ?_
            refine x_put (w' := [(qt_keyCodes, eJ G 27 qt_keyCodes_c), (qt, .inr (8, [.ref qt_keyCodes, .ref qt_bytes, .int qt_size, .int qt_most, .int j18, .int 1, .int qt_most, .int 0, .long 0, .int (-1), .int qt_fault, .int qt_faultPlace])), (qt_bytes, eB G 940 qt_bytes_c)]) C hw iwX9 tyX9_ok nmX9 8 rfl 1 rfl 6 (by decide) kw98 rfl rfl rfl (Nat.le_of_ble_eq_true rfl) rfl dX9_next_109 (fun H locs hw => ?_)
            refine lv_goto (tgt := 213) C.1 C.2.1 dX9_next_112 (by decide) ?_
            have hK : tkK b qt_size.toInt qt_most.toInt qt_from.toInt = 1 := by unfold tkK; rw [hS]; (repeat first | rw [if_pos (by omega)] | rw [if_neg (by omega)]); all_goals omega
            have hX : tkX b qt_size.toInt qt_most.toInt qt_from.toInt = j18.toInt := by unfold tkX; rw [hS]; (repeat first | rw [if_pos (by omega)] | rw [if_neg (by omega)]); all_goals (first | rfl | omega)
            have hP : tkP b qt_size.toInt qt_most.toInt qt_from.toInt = qt_most.toInt := by unfold tkP; rw [hS]; (repeat first | rw [if_pos (by omega)] | rw [if_neg (by omega)]); all_goals (first | rfl | omega)
            have hw := hw.sub (w' := [(qt, .inr (8, [.ref qt_keyCodes, .ref qt_bytes, .int qt_size, .int qt_most, .int j18, .int 1, .int qt_most, .int 0, .long 0, .int (-1), .int qt_fault, .int qt_faultPlace])), (qt_keyCodes, eJ G 27 qt_keyCodes_c), (qt_bytes, eB G 940 qt_bytes_c)]) [1, 0, 2] rfl rfl
            exact x_retvQ hQ B hw ⟨j18, 1, qt_most, 0, 0, (-1), rfl, (by omega), (by decide), (by omega), (by decide), (by have e0 : ((-1) : Int32).toInt = (-1) := rfl; have e1 : (0 : Int32).toInt = 0 := rfl; have e2 : (1 : Int32).toInt = 1 := rfl; first | omega), (by have e0 : ((-1) : Int32).toInt = (-1) := rfl; have e1 : (0 : Int32).toInt = 0 := rfl; have e2 : (1 : Int32).toInt = 1 := rfl; first | omega), (by have e0 : ((-1) : Int32).toInt = (-1) := rfl; have e1 : (0 : Int32).toInt = 0 := rfl; have e2 : (1 : Int32).toInt = 1 := rfl; first | omega), (by have e0 : ((-1) : Int32).toInt = (-1) := rfl; have e1 : (0 : Int32).toInt = 0 := rfl; have e2 : (1 : Int32).toInt = 1 := rfl; first | omega), (by have e0 : ((-1) : Int32).toInt = (-1) := rfl; have e1 : (0 : Int32).toInt = 0 := rfl; have e2 : (1 : Int32).toInt = 1 := rfl; first | omega), (by have e0 : ((-1) : Int32).toInt = (-1) := rfl; have e1 : (0 : Int32).toInt = 0 := rfl; have e2 : (1 : Int32).toInt = 1 := rfl; first | omega), (by have e0 : ((-1) : Int32).toInt = (-1) := rfl; have e1 : (0 : Int32).toInt = 0 := rfl; have e2 : (1 : Int32).toInt = 1 := rfl; first | omega)⟩ (Nat.le_of_ble_eq_true rfl) (Nat.le_of_ble_eq_true rfl) dX9_next_213
      refine lv_icmp_ge (tgt := 54) C.1 C.2.1 dX9_next_17 (by decide) (fun c33 => ?_) (fun c33 => ?_)
      · skip
        have c33 : qt_size.toInt ≤ j18.toInt := i_leT (X := qt_size.toInt) (Y := j18.toInt) rfl rfl c33
        exact J43   (by first | assumption | omega | (exact (show sc (blB b) qt_size.toInt j18.toInt = sc (blB b) qt_size.toInt qt_from.toInt by assumption).symm.trans (sc_stop (fun h9 => blB_f (by omega))))) _ _ _ hw (lv_sub hl [0, 1] rfl)
      · skip
        have c33 : j18.toInt < qt_size.toInt := i_leF (X := qt_size.toInt) (Y := j18.toInt) rfl rfl c33
        refine lv_iload_n C.1 C.2.1 dX9_next_20 rfl (lv_at hl 0 rfl) ?_
        refine lv_bipush (v := 32) C.1 C.2.1 dX9_next_21 (by decide) ?_
        have J214 : ((b j18.toInt = 32 ∨ b j18.toInt = 10) ∧ j18.toInt < qt_size.toInt) → ∀ (H : Heap) (locs : List Loc) (ls : Array Slot), Wd G s A [(qt_keyCodes, eJ G 27 qt_keyCodes_c), (qt, .inr (8, [.ref qt_keyCodes, .ref qt_bytes, .int qt_size, .int qt_most, .int j18, .int qt_kind, .int qt_place, .int qt_value, .long qt_code, .int qt_key, .int qt_fault, .int qt_faultPlace])), (qt_bytes, eB G 940 qt_bytes_c)] H locs → lv_has ls 2 [(0, .ref qt)] → W p l e (rmD 2 0 0) s m args below meth c H locs 0 0 Q (F0 m 32 ls []) := by
          intro  hJ214_0 H locs ls hw hl
          refine lv_aload_n C.1 C.2.1 dX9_next_32 rfl (lv_at hl 0 rfl) ?_
          refine lv_dup C.1 C.2.1 dX9_next_33 rfl ?_
          refine x_get C hw iwX9 8 rfl 1 rfl 4 (by decide) kw93 rfl dX9_next_34 ?_
          refine lv_iconst (v := 1) C.1 C.2.1 dX9_next_37 (by decide) ?_
          refine lv_iadd C.1 C.2.1 dX9_next_38 (x_genP (fun z : Int32 => z.toInt = j18.toInt + 1) (i_add (X := j18.toInt) (Y := 1) rfl rfl (by omega) (by omega)) (fun v221 hv221 => ?_))
          refine x_put (w' := [(qt_keyCodes, eJ G 27 qt_keyCodes_c), (qt, .inr (8, [.ref qt_keyCodes, .ref qt_bytes, .int qt_size, .int qt_most, .int v221, .int qt_kind, .int qt_place, .int qt_value, .long qt_code, .int qt_key, .int qt_fault, .int qt_faultPlace])), (qt_bytes, eB G 940 qt_bytes_c)]) C hw iwX9 tyX9_ok nmX9 8 rfl 1 rfl 4 (by decide) kw93 rfl rfl rfl (Nat.le_of_ble_eq_true rfl) rfl dX9_next_39 (fun H locs hw => ?_)
          refine lv_aload_n C.1 C.2.1 dX9_next_42 rfl (lv_at hl 0 rfl) ?_
          refine lv_aload_n C.1 C.2.1 dX9_next_43 rfl (lv_at hl 0 rfl) ?_
          refine x_get C hw iwX9 8 rfl 1 rfl 4 (by decide) kw93 rfl dX9_next_44 ?_
          refine x_calliV (As := [.int v221]) (rest := []) (wr := [(qt_keyCodes, eJ G 27 qt_keyCodes_c)]) C hw (e_X9_at qt v221 qt_keyCodes qt_bytes qt_size qt_most v221 qt_kind qt_place qt_value qt_code qt_key qt_fault qt_faultPlace qt_bytes_c b (by omega) hr_0) mwX9_at kw530 [1, 2] [0] rfl rfl rfl rfl (by decide) 0 rfl rfl rfl rfl hl.1 rfl (Nat.le_of_ble_eq_true rfl) ⟨(Nat.le_of_ble_eq_true rfl), (Nat.le_of_ble_eq_true rfl)⟩ ⟨(Nat.le_of_ble_eq_true rfl), (Nat.le_of_ble_eq_true rfl)⟩ dX9_next_47 (fun r222 u9 H locs hp9 hw => ?_)
          obtain ⟨x223, rfl, rfl, hf224, hf225, hf226⟩ := hp9
          have hw : Wd G s A [(qt_keyCodes, eJ G 27 qt_keyCodes_c), (qt, .inr (8, [.ref qt_keyCodes, .ref qt_bytes, .int qt_size, .int qt_most, .int v221, .int qt_kind, .int qt_place, .int qt_value, .long qt_code, .int qt_key, .int qt_fault, .int qt_faultPlace])), (qt_bytes, eB G 940 qt_bytes_c)] H _ := hw
          refine lv_istore_n (lv' := [(1, .int r222), (0, .ref qt)]) C.1 C.2.1 dX9_next_50 rfl hl (by decide) rfl (fun ls hl => ?_)
          refine lv_goto (tgt := 9) C.1 C.2.1 dX9_next_51 (by decide) ?_
          exact ihJ19 r222 v221 (by omega) (by omega) (by omega) (by first | assumption | omega | (rfl) | (rw [hv221, sc_step (by omega) (blB_t (by omega))]; assumption)) (by first | assumption | omega) (by first | assumption | omega) _ _ _ hw (lv_sub hl [0, 1] rfl)
        refine lv_icmp_eq (tgt := 32) C.1 C.2.1 dX9_next_23 (by decide) (fun c212 => ?_) (fun c212 => ?_)
        · skip
          have c212 : j17.toInt = 32 := i_eqT (X := j17.toInt) (Y := 32) rfl rfl c212
          exact J214   (by first | assumption | omega) _ _ _ hw (lv_sub hl [1] rfl)
        · skip
          have c212 : j17.toInt ≠ 32 := i_eqF (X := j17.toInt) (Y := 32) rfl rfl c212
          refine lv_iload_n C.1 C.2.1 dX9_next_26 rfl (lv_at hl 0 rfl) ?_
          refine lv_bipush (v := 10) C.1 C.2.1 dX9_next_27 (by decide) ?_
          refine lv_icmp_ne (tgt := 54) C.1 C.2.1 dX9_next_29 (by decide) (fun c227 => ?_) (fun c227 => ?_)
          · skip
            have c227 : j17.toInt ≠ 10 := i_eqF (X := j17.toInt) (Y := 10) rfl rfl c227
            exact J43   (by first | assumption | omega | (exact (show sc (blB b) qt_size.toInt j18.toInt = sc (blB b) qt_size.toInt qt_from.toInt by assumption).symm.trans (sc_stop (fun h9 => blB_f (by omega))))) _ _ _ hw (lv_sub hl [0, 1] rfl)
          · skip
            have c227 : j17.toInt = 10 := i_eqT (X := j17.toInt) (Y := 10) rfl rfl c227
            exact J214   (by first | assumption | omega) _ _ _ hw (lv_sub hl [1] rfl)
  exact loopJ19 _ r1 qt_from (Nat.lt_succ_self _) (by omega) (by omega) (by first | assumption | omega | (rfl) | (rw [hqt_from, sc_step (by omega) (blB_t (by omega))]; assumption)) (by first | assumption | omega) (by first | assumption | omega) _ _ _ hw (lv_sub hl [0, 1] rfl)
theorem dX9_fail_0 : decode cX9_fail 0 = .ok (.aload_n 0, 1) := by decide +kernel
theorem dX9_fail_1 : decode cX9_fail 1 = .ok (.getfield 53, 3) := by decide +kernel
theorem dX9_fail_4 : decode cX9_fail 4 = .ok (.ifCond .ne 16, 3) := by decide +kernel
theorem dX9_fail_7 : decode cX9_fail 7 = .ok (.aload_n 0, 1) := by decide +kernel
theorem dX9_fail_8 : decode cX9_fail 8 = .ok (.iload_n 1, 1) := by decide +kernel
theorem dX9_fail_9 : decode cX9_fail 9 = .ok (.putfield 53, 3) := by decide +kernel
theorem dX9_fail_12 : decode cX9_fail 12 = .ok (.aload_n 0, 1) := by decide +kernel
theorem dX9_fail_13 : decode cX9_fail 13 = .ok (.aload_n 0, 1) := by decide +kernel
theorem dX9_fail_14 : decode cX9_fail 14 = .ok (.getfield 59, 3) := by decide +kernel
theorem dX9_fail_17 : decode cX9_fail 17 = .ok (.putfield 56, 3) := by decide +kernel
theorem dX9_fail_20 : decode cX9_fail 20 = .ok (.iconst 0, 1) := by decide +kernel
theorem dX9_fail_21 : decode cX9_fail 21 = .ok (.ireturn, 1) := by decide +kernel
set_option maxHeartbeats 4000000 in
set_option maxRecDepth 100000 in
theorem e_X9_fail {l : Launch} {G : Gc} (qt : Nat) (a1 : Int32) (qt_keyCodes : Nat) (qt_bytes : Nat) (qt_size : Int32) (qt_most : Int32) (qt_from : Int32) (qt_kind : Int32) (qt_place : Int32) (qt_value : Int32) (qt_code : Int64) (qt_key : Int32) (qt_faultPlace : Int32)  : Ci l yX9_fail cX9_fail 2 (some .boolean) 0 0 0 G [.ref qt, .int a1] [(qt, .inr (8, [.ref qt_keyCodes, .ref qt_bytes, .int qt_size, .int qt_most, .int qt_from, .int qt_kind, .int qt_place, .int qt_value, .long qt_code, .int qt_key, .int 0, .int qt_faultPlace]))] (fun (r9 : Int32) (u9 : va_W) => r9 = 0 ∧ u9 = [(qt, .inr (8, [.ref qt_keyCodes, .ref qt_bytes, .int qt_size, .int qt_most, .int qt_from, .int qt_kind, .int qt_place, .int qt_value, .long qt_code, .int qt_key, .int a1, .int qt_place]))]) := by
  refine Ci.ofQ (by decide) (Nat.le_of_ble_eq_true rfl) ?_
  intro p e s m below meth c ls A args Q hQ B hw hl
  have C : CallFix p m c cX9_fail 2 s args gw "LanternState$Tape" := B.1
  have hl : lv_has ls 2 [(0, .ref qt), (1, .int a1)] := hl
  refine lv_aload_n C.1 C.2.1 dX9_fail_0 rfl (lv_at hl 0 rfl) ?_
  refine x_get C hw iwX9 8 rfl 0 rfl 10 (by decide) kw110 rfl dX9_fail_1 ?_
  refine lv_if_ne (tgt := 20) C.1 C.2.1 dX9_fail_4 (by decide) (fun h9 => absurd (by decide) h9) (fun _ => ?_)
  refine lv_aload_n C.1 C.2.1 dX9_fail_7 rfl (lv_at hl 0 rfl) ?_
  refine lv_iload_n C.1 C.2.1 dX9_fail_8 rfl (lv_at hl 1 rfl) ?_
  refine x_put (w' := [(qt, .inr (8, [.ref qt_keyCodes, .ref qt_bytes, .int qt_size, .int qt_most, .int qt_from, .int qt_kind, .int qt_place, .int qt_value, .long qt_code, .int qt_key, .int a1, .int qt_faultPlace]))]) C hw iwX9 tyX9_ok nmX9 8 rfl 0 rfl 10 (by decide) kw110 rfl rfl rfl (Nat.le_of_ble_eq_true rfl) rfl dX9_fail_9 (fun H locs hw => ?_)
  refine lv_aload_n C.1 C.2.1 dX9_fail_12 rfl (lv_at hl 0 rfl) ?_
  refine lv_aload_n C.1 C.2.1 dX9_fail_13 rfl (lv_at hl 0 rfl) ?_
  refine x_get C hw iwX9 8 rfl 0 rfl 6 (by decide) kw98 rfl dX9_fail_14 ?_
  refine x_put (w' := [(qt, .inr (8, [.ref qt_keyCodes, .ref qt_bytes, .int qt_size, .int qt_most, .int qt_from, .int qt_kind, .int qt_place, .int qt_value, .long qt_code, .int qt_key, .int a1, .int qt_place]))]) C hw iwX9 tyX9_ok nmX9 8 rfl 0 rfl 11 (by decide) kw113 rfl rfl rfl (Nat.le_of_ble_eq_true rfl) rfl dX9_fail_17 (fun H locs hw => ?_)
  refine lv_iconst (v := 0) C.1 C.2.1 dX9_fail_20 (by decide) ?_
  exact x_retzQ hQ B hw rfl ⟨rfl, rfl⟩ (Nat.le_of_ble_eq_true rfl) (Nat.le_of_ble_eq_true rfl) dX9_fail_21
theorem dX9_isSign_0 : decode cX9_isSign 0 = .ok (.aload_n 0, 1) := by decide +kernel
theorem dX9_isSign_1 : decode cX9_isSign 1 = .ok (.getfield 72, 3) := by decide +kernel
theorem dX9_isSign_4 : decode cX9_isSign 4 = .ok (.iconst 5, 1) := by decide +kernel
theorem dX9_isSign_5 : decode cX9_isSign 5 = .ok (.if_icmp .ne 15, 3) := by decide +kernel
theorem dX9_isSign_20 : decode cX9_isSign 20 = .ok (.iconst 0, 1) := by decide +kernel
theorem dX9_isSign_21 : decode cX9_isSign 21 = .ok (.ireturn, 1) := by decide +kernel
theorem dX9_isSign_8 : decode cX9_isSign 8 = .ok (.aload_n 0, 1) := by decide +kernel
theorem dX9_isSign_9 : decode cX9_isSign 9 = .ok (.getfield 62, 3) := by decide +kernel
theorem dX9_isSign_12 : decode cX9_isSign 12 = .ok (.iload_n 1, 1) := by decide +kernel
theorem dX9_isSign_13 : decode cX9_isSign 13 = .ok (.if_icmp .ne 7, 3) := by decide +kernel
theorem dX9_isSign_16 : decode cX9_isSign 16 = .ok (.iconst 1, 1) := by decide +kernel
theorem dX9_isSign_17 : decode cX9_isSign 17 = .ok (.goto 4, 3) := by decide +kernel
set_option maxHeartbeats 4000000 in
set_option maxRecDepth 100000 in
theorem e_X9_isSign {l : Launch} {G : Gc} (qt : Nat) (a1 : Int32) (qt_keyCodes : Nat) (qt_bytes : Nat) (qt_size : Int32) (qt_most : Int32) (qt_from : Int32) (qt_kind : Int32) (qt_place : Int32) (qt_value : Int32) (qt_code : Int64) (qt_key : Int32) (qt_fault : Int32) (qt_faultPlace : Int32)  : Ci l yX9_isSign cX9_isSign 2 (some .boolean) 0 0 0 G [.ref qt, .int a1] [(qt, .inr (8, [.ref qt_keyCodes, .ref qt_bytes, .int qt_size, .int qt_most, .int qt_from, .int qt_kind, .int qt_place, .int qt_value, .long qt_code, .int qt_key, .int qt_fault, .int qt_faultPlace]))] (fun (r9 : Int32) (u9 : va_W) => (r9 = 0 ∧ u9 = [(qt, .inr (8, [.ref qt_keyCodes, .ref qt_bytes, .int qt_size, .int qt_most, .int qt_from, .int qt_kind, .int qt_place, .int qt_value, .long qt_code, .int qt_key, .int qt_fault, .int qt_faultPlace]))] ∧ (¬ (qt_kind.toInt = 5 ∧ qt_value.toInt = a1.toInt))) ∨ (r9 = 1 ∧ u9 = [(qt, .inr (8, [.ref qt_keyCodes, .ref qt_bytes, .int qt_size, .int qt_most, .int qt_from, .int qt_kind, .int qt_place, .int qt_value, .long qt_code, .int qt_key, .int qt_fault, .int qt_faultPlace]))] ∧ (qt_kind.toInt = 5 ∧ qt_value.toInt = a1.toInt))) := by
  refine Ci.ofQ (by decide) (Nat.le_of_ble_eq_true rfl) ?_
  intro p e s m below meth c ls A args Q hQ B hw hl
  have C : CallFix p m c cX9_isSign 2 s args gw "LanternState$Tape" := B.1
  have hl : lv_has ls 2 [(0, .ref qt), (1, .int a1)] := hl
  refine lv_aload_n C.1 C.2.1 dX9_isSign_0 rfl (lv_at hl 0 rfl) ?_
  refine x_get C hw iwX9 8 rfl 0 rfl 5 (by decide) kw97 rfl dX9_isSign_1 ?_
  refine lv_iconst (v := 5) C.1 C.2.1 dX9_isSign_4 (by decide) ?_
  refine lv_icmp_ne (tgt := 20) C.1 C.2.1 dX9_isSign_5 (by decide) (fun c1 => ?_) (fun c1 => ?_)
  · skip
    have c1 : qt_kind.toInt ≠ 5 := i_eqF (X := qt_kind.toInt) (Y := 5) rfl rfl c1
    have bc1_qt_kind := i_bd qt_kind
    refine lv_iconst (v := 0) C.1 C.2.1 dX9_isSign_20 (by decide) ?_
    exact x_retzQ hQ B hw rfl (Or.inl ⟨rfl, rfl, (by first | omega)⟩) (Nat.le_of_ble_eq_true rfl) (Nat.le_of_ble_eq_true rfl) dX9_isSign_21
  · skip
    have c1 : qt_kind.toInt = 5 := i_eqT (X := qt_kind.toInt) (Y := 5) rfl rfl c1
    have bc1_qt_kind := i_bd qt_kind
    refine lv_aload_n C.1 C.2.1 dX9_isSign_8 rfl (lv_at hl 0 rfl) ?_
    refine x_get C hw iwX9 8 rfl 0 rfl 7 (by decide) kw101 rfl dX9_isSign_9 ?_
    refine lv_iload_n C.1 C.2.1 dX9_isSign_12 rfl (lv_at hl 1 rfl) ?_
    refine lv_icmp_ne (tgt := 20) C.1 C.2.1 dX9_isSign_13 (by decide) (fun c2 => ?_) (fun c2 => ?_)
    · skip
      have c2 : qt_value.toInt ≠ a1.toInt := i_eqF (X := qt_value.toInt) (Y := a1.toInt) rfl rfl c2
      have bc2_qt_value := i_bd qt_value
      have bc2_a1 := i_bd a1
      refine lv_iconst (v := 0) C.1 C.2.1 dX9_isSign_20 (by decide) ?_
      exact x_retzQ hQ B hw rfl (Or.inl ⟨rfl, rfl, (by first | omega)⟩) (Nat.le_of_ble_eq_true rfl) (Nat.le_of_ble_eq_true rfl) dX9_isSign_21
    · skip
      have c2 : qt_value.toInt = a1.toInt := i_eqT (X := qt_value.toInt) (Y := a1.toInt) rfl rfl c2
      have bc2_qt_value := i_bd qt_value
      have bc2_a1 := i_bd a1
      refine lv_iconst (v := 1) C.1 C.2.1 dX9_isSign_16 (by decide) ?_
      refine lv_goto (tgt := 21) C.1 C.2.1 dX9_isSign_17 (by decide) ?_
      exact x_retzQ hQ B hw rfl (Or.inr ⟨rfl, rfl, (by first | omega)⟩) (Nat.le_of_ble_eq_true rfl) (Nat.le_of_ble_eq_true rfl) dX9_isSign_21
theorem dX9_takeNumber_0 : decode cX9_takeNumber 0 = .ok (.aload_n 0, 1) := by decide +kernel
theorem dX9_takeNumber_1 : decode cX9_takeNumber 1 = .ok (.invokevirtual 78, 3) := by decide +kernel
theorem mwX9_next : MwV yX9_next cX9_next 2 none 0 := ⟨⟨kw529, kw2, by decide +kernel⟩, kw527, kw528⟩
theorem dX9_takeNumber_4 : decode cX9_takeNumber 4 = .ok (.aload_n 0, 1) := by decide +kernel
theorem dX9_takeNumber_5 : decode cX9_takeNumber 5 = .ok (.getfield 72, 3) := by decide +kernel
theorem dX9_takeNumber_8 : decode cX9_takeNumber 8 = .ok (.iconst 4, 1) := by decide +kernel
theorem dX9_takeNumber_9 : decode cX9_takeNumber 9 = .ok (.if_icmp .eq 9, 3) := by decide +kernel
theorem dX9_takeNumber_18 : decode cX9_takeNumber 18 = .ok (.aload_n 0, 1) := by decide +kernel
theorem dX9_takeNumber_19 : decode cX9_takeNumber 19 = .ok (.getfield 62, 3) := by decide +kernel
theorem dX9_takeNumber_22 : decode cX9_takeNumber 22 = .ok (.iload_n 1, 1) := by decide +kernel
theorem dX9_takeNumber_23 : decode cX9_takeNumber 23 = .ok (.if_icmp .lt 11, 3) := by decide +kernel
theorem dX9_takeNumber_34 : decode cX9_takeNumber 34 = .ok (.aload_n 0, 1) := by decide +kernel
theorem dX9_takeNumber_35 : decode cX9_takeNumber 35 = .ok (.iconst 2, 1) := by decide +kernel
theorem dX9_takeNumber_36 : decode cX9_takeNumber 36 = .ok (.invokevirtual 81, 3) := by decide +kernel
theorem mwX9_fail : MwV yX9_fail cX9_fail 2 (some .boolean) 1 := ⟨⟨kw549, kw2, by decide +kernel⟩, kw547, kw548⟩
theorem dX9_takeNumber_39 : decode cX9_takeNumber 39 = .ok (.ifCond .eq 7, 3) := by decide +kernel
theorem dX9_takeNumber_46 : decode cX9_takeNumber 46 = .ok (.iconst 0, 1) := by decide +kernel
theorem dX9_takeNumber_47 : decode cX9_takeNumber 47 = .ok (.ireturn, 1) := by decide +kernel
theorem dX9_takeNumber_26 : decode cX9_takeNumber 26 = .ok (.aload_n 0, 1) := by decide +kernel
theorem dX9_takeNumber_27 : decode cX9_takeNumber 27 = .ok (.getfield 62, 3) := by decide +kernel
theorem dX9_takeNumber_30 : decode cX9_takeNumber 30 = .ok (.iload_n 2, 1) := by decide +kernel
theorem dX9_takeNumber_31 : decode cX9_takeNumber 31 = .ok (.if_icmp .le 11, 3) := by decide +kernel
theorem dX9_takeNumber_42 : decode cX9_takeNumber 42 = .ok (.iconst 1, 1) := by decide +kernel
theorem dX9_takeNumber_43 : decode cX9_takeNumber 43 = .ok (.goto 4, 3) := by decide +kernel
theorem dX9_takeNumber_12 : decode cX9_takeNumber 12 = .ok (.aload_n 0, 1) := by decide +kernel
theorem dX9_takeNumber_13 : decode cX9_takeNumber 13 = .ok (.iconst 1, 1) := by decide +kernel
theorem dX9_takeNumber_14 : decode cX9_takeNumber 14 = .ok (.invokevirtual 81, 3) := by decide +kernel
theorem dX9_takeNumber_17 : decode cX9_takeNumber 17 = .ok (.ireturn, 1) := by decide +kernel
set_option maxHeartbeats 4000000 in
set_option maxRecDepth 100000 in
theorem e_X9_takeNumber {l : Launch} {G : Gc} (qt : Nat) (a1 : Int32) (a2 : Int32) (qt_keyCodes : Nat) (qt_bytes : Nat) (qt_size : Int32) (qt_most : Int32) (qt_from : Int32) (qt_kind : Int32) (qt_place : Int32) (qt_value : Int32) (qt_code : Int64) (qt_key : Int32) (qt_faultPlace : Int32) (qt_keyCodes_c : Nat → Int64) (qt_bytes_c : Nat → Int32) (b : Int → Int) (hi_qt_from : 0 ≤ qt_from.toInt ∧ qt_from.toInt ≤ 940) (hi_qt_most : 0 ≤ qt_most.toInt ∧ qt_most.toInt ≤ 900) (hi_qt_size : 0 ≤ qt_size.toInt ∧ qt_size.toInt ≤ 940) (hr_0 : tbC b qt_bytes_c qt_size) (hr_1 : kcI qt_keyCodes_c) : Ci l yX9_takeNumber cX9_takeNumber 3 (some .boolean) 3 0 0 G [.ref qt, .int a1, .int a2] [(qt, .inr (8, [.ref qt_keyCodes, .ref qt_bytes, .int qt_size, .int qt_most, .int qt_from, .int qt_kind, .int qt_place, .int qt_value, .long qt_code, .int qt_key, .int 0, .int qt_faultPlace])), (qt_keyCodes, eJ G 27 qt_keyCodes_c), (qt_bytes, eB G 940 qt_bytes_c)] (fun (r9 : Int32) (u9 : va_W) => (∃ (x0_qt_from : Int32) (x1_qt_kind : Int32) (x2_qt_place : Int32) (x3_qt_value : Int32) (x4_qt_code : Int64) (x5_qt_key : Int32) (x6_0 : Int32) (x7_qt_faultPlace : Int32), r9 = 0 ∧ u9 = [(qt, .inr (8, [.ref qt_keyCodes, .ref qt_bytes, .int qt_size, .int qt_most, .int x0_qt_from, .int x1_qt_kind, .int x2_qt_place, .int x3_qt_value, .long x4_qt_code, .int x5_qt_key, .int x6_0, .int x7_qt_faultPlace])), (qt_keyCodes, eJ G 27 qt_keyCodes_c), (qt_bytes, eB G 940 qt_bytes_c)] ∧ (0 ≤ x0_qt_from.toInt ∧ x0_qt_from.toInt ≤ 940) ∧ (0 ≤ x1_qt_kind.toInt ∧ x1_qt_kind.toInt ≤ 5) ∧ (0 ≤ x2_qt_place.toInt ∧ x2_qt_place.toInt ≤ 940) ∧ ((-1) ≤ x5_qt_key.toInt ∧ x5_qt_key.toInt ≤ 33) ∧ (1 ≤ x6_0.toInt ∧ x6_0.toInt ≤ 2) ∧ (0 ≤ x7_qt_faultPlace.toInt ∧ x7_qt_faultPlace.toInt ≤ 940) ∧ (x7_qt_faultPlace.toInt = tkP b qt_size.toInt qt_most.toInt qt_from.toInt) ∧ (nf b qt_size.toInt qt_most.toInt qt_from.toInt a1.toInt a2.toInt ≠ 0) ∧ (nf b qt_size.toInt qt_most.toInt qt_from.toInt a1.toInt a2.toInt = x6_0.toInt)) ∨ (∃ (x0_qt_from : Int32) (x1_qt_kind : Int32) (x2_qt_place : Int32) (x3_qt_value : Int32) (x4_qt_code : Int64) (x5_qt_key : Int32), r9 = 1 ∧ u9 = [(qt, .inr (8, [.ref qt_keyCodes, .ref qt_bytes, .int qt_size, .int qt_most, .int x0_qt_from, .int x1_qt_kind, .int x2_qt_place, .int x3_qt_value, .long x4_qt_code, .int x5_qt_key, .int 0, .int qt_faultPlace])), (qt_keyCodes, eJ G 27 qt_keyCodes_c), (qt_bytes, eB G 940 qt_bytes_c)] ∧ (0 ≤ x0_qt_from.toInt ∧ x0_qt_from.toInt ≤ 940) ∧ (4 ≤ x1_qt_kind.toInt ∧ x1_qt_kind.toInt ≤ 4) ∧ (0 ≤ x2_qt_place.toInt ∧ x2_qt_place.toInt ≤ 940) ∧ ((-1) ≤ x5_qt_key.toInt ∧ x5_qt_key.toInt ≤ 33) ∧ (x0_qt_from.toInt = tkX b qt_size.toInt qt_most.toInt qt_from.toInt) ∧ (x2_qt_place.toInt = tkP b qt_size.toInt qt_most.toInt qt_from.toInt) ∧ (tkK b qt_size.toInt qt_most.toInt qt_from.toInt = 3 ∧ a1.toInt ≤ tkN b qt_size.toInt qt_from.toInt ∧ tkN b qt_size.toInt qt_from.toInt ≤ a2.toInt) ∧ (x3_qt_value.toInt = tkN b qt_size.toInt qt_from.toInt) ∧ (nf b qt_size.toInt qt_most.toInt qt_from.toInt a1.toInt a2.toInt = 0))) := by
  refine Ci.ofQ (by decide) (Nat.le_of_ble_eq_true rfl) ?_
  intro p e s m below meth c ls A args Q hQ B hw hl
  have C : CallFix p m c cX9_takeNumber 3 s args gw "LanternState$Tape" := B.1
  have hl : lv_has ls 3 [(0, .ref qt), (1, .int a1), (2, .int a2)] := hl
  refine lv_aload_n C.1 C.2.1 dX9_takeNumber_0 rfl (lv_at hl 0 rfl) ?_
  refine x_callvV (As := []) (rest := []) (wr := []) C hw (e_X9_next qt qt_keyCodes qt_bytes qt_size qt_most qt_from qt_kind qt_place qt_value qt_code qt_key 0 qt_faultPlace qt_keyCodes_c qt_bytes_c b (by omega) (by omega) (by omega) hr_0 hr_1) mwX9_next kw554 [0, 1, 2] [] rfl rfl rfl rfl (by decide) 0 rfl rfl rfl rfl hl.1 rfl (Nat.le_of_ble_eq_true rfl) ⟨(Nat.le_of_ble_eq_true rfl), (Nat.le_of_ble_eq_true rfl)⟩ ⟨(Nat.le_of_ble_eq_true rfl), (Nat.le_of_ble_eq_true rfl)⟩ dX9_takeNumber_1 (fun  u9 H locs hp9 hw => ?_)
  obtain ⟨x1, x2, x3, x4, x5, x6, rfl, hf7, hf8, hf9, hf10, hf11, hf12, hf13, hf14, hf15, hf16, hf17⟩ := hp9
  have hw : Wd G s A [(qt, .inr (8, [.ref qt_keyCodes, .ref qt_bytes, .int qt_size, .int qt_most, .int x1, .int x2, .int x3, .int x4, .long x5, .int x6, .int 0, .int qt_faultPlace])), (qt_keyCodes, eJ G 27 qt_keyCodes_c), (qt_bytes, eB G 940 qt_bytes_c)] H _ := hw
  refine lv_aload_n C.1 C.2.1 dX9_takeNumber_4 rfl (lv_at hl 0 rfl) ?_
  refine x_get C hw iwX9 8 rfl 0 rfl 5 (by decide) kw97 rfl dX9_takeNumber_5 ?_
  refine lv_iconst (v := 4) C.1 C.2.1 dX9_takeNumber_8 (by decide) ?_
  refine lv_icmp_eq (tgt := 18) C.1 C.2.1 dX9_takeNumber_9 (by decide) (fun c18 => ?_) (fun c18 => ?_)
  · skip
    have c18 : x2.toInt = 4 := i_eqT (X := x2.toInt) (Y := 4) rfl rfl c18
    refine lv_aload_n C.1 C.2.1 dX9_takeNumber_18 rfl (lv_at hl 0 rfl) ?_
    refine x_get C hw iwX9 8 rfl 0 rfl 7 (by decide) kw101 rfl dX9_takeNumber_19 ?_
    refine lv_iload_n C.1 C.2.1 dX9_takeNumber_22 rfl (lv_at hl 1 rfl) ?_
    refine lv_icmp_lt (tgt := 34) C.1 C.2.1 dX9_takeNumber_23 (by decide) (fun c19 => ?_) (fun c19 => ?_)
    · skip
      have c19 : x4.toInt < a1.toInt := i_ltT (X := x4.toInt) (Y := a1.toInt) rfl rfl c19
      have bc19_x4 := i_bd x4
      have bc19_a1 := i_bd a1
      refine lv_aload_n C.1 C.2.1 dX9_takeNumber_34 rfl (lv_at hl 0 rfl) ?_
      refine lv_iconst (v := 2) C.1 C.2.1 dX9_takeNumber_35 (by decide) ?_
      refine x_calliV (As := [.int 2]) (rest := []) (wr := [(qt_keyCodes, eJ G 27 qt_keyCodes_c), (qt_bytes, eB G 940 qt_bytes_c)]) C hw (e_X9_fail qt 2 qt_keyCodes qt_bytes qt_size qt_most x1 x2 x3 x4 x5 x6 qt_faultPlace) mwX9_fail kw555 [0] [1, 2] rfl rfl rfl rfl (by decide) 0 rfl rfl rfl rfl hl.1 rfl (Nat.le_of_ble_eq_true rfl) ⟨(Nat.le_of_ble_eq_true rfl), (Nat.le_of_ble_eq_true rfl)⟩ ⟨(Nat.le_of_ble_eq_true rfl), (Nat.le_of_ble_eq_true rfl)⟩ dX9_takeNumber_36 (fun r20 u9 H locs hp9 hw => ?_)
      obtain ⟨rfl, rfl⟩ := hp9
      have hw : Wd G s A [(qt_keyCodes, eJ G 27 qt_keyCodes_c), (qt_bytes, eB G 940 qt_bytes_c), (qt, .inr (8, [.ref qt_keyCodes, .ref qt_bytes, .int qt_size, .int qt_most, .int x1, .int x2, .int x3, .int x4, .long x5, .int x6, .int 2, .int x3]))] H _ := hw
      refine lv_if_eq (tgt := 46) C.1 C.2.1 dX9_takeNumber_39 (by decide) (fun _ => ?_) (fun h9 => absurd (by decide) h9)
      refine lv_iconst (v := 0) C.1 C.2.1 dX9_takeNumber_46 (by decide) ?_
      have hw := hw.sub (w' := [(qt, .inr (8, [.ref qt_keyCodes, .ref qt_bytes, .int qt_size, .int qt_most, .int x1, .int x2, .int x3, .int x4, .long x5, .int x6, .int 2, .int x3])), (qt_keyCodes, eJ G 27 qt_keyCodes_c), (qt_bytes, eB G 940 qt_bytes_c)]) [2, 0, 1] rfl rfl
      exact x_retzQ hQ B hw rfl (Or.inl ⟨x1, x2, x3, x4, x5, x6, 2, x3, rfl, rfl, (by omega), (by omega), (by omega), (by omega), (by decide), (by omega), (by have e0 : (2 : Int32).toInt = 2 := rfl; first | omega), (by have e0 : (2 : Int32).toInt = 2 := rfl; first | omega | (unfold nf; (repeat first | rw [if_pos (by omega)] | rw [if_neg (by omega)]); all_goals omega)), (by have e0 : (2 : Int32).toInt = 2 := rfl; first | omega | (unfold nf; (repeat first | rw [if_pos (by omega)] | rw [if_neg (by omega)]); all_goals omega))⟩) (Nat.le_of_ble_eq_true rfl) (Nat.le_of_ble_eq_true rfl) dX9_takeNumber_47
    · skip
      have c19 : a1.toInt ≤ x4.toInt := i_ltF (X := x4.toInt) (Y := a1.toInt) rfl rfl c19
      have bc19_x4 := i_bd x4
      have bc19_a1 := i_bd a1
      refine lv_aload_n C.1 C.2.1 dX9_takeNumber_26 rfl (lv_at hl 0 rfl) ?_
      refine x_get C hw iwX9 8 rfl 0 rfl 7 (by decide) kw101 rfl dX9_takeNumber_27 ?_
      refine lv_iload_n C.1 C.2.1 dX9_takeNumber_30 rfl (lv_at hl 2 rfl) ?_
      refine lv_icmp_le (tgt := 42) C.1 C.2.1 dX9_takeNumber_31 (by decide) (fun c21 => ?_) (fun c21 => ?_)
      · skip
        have c21 : x4.toInt ≤ a2.toInt := i_leT (X := x4.toInt) (Y := a2.toInt) rfl rfl c21
        have bc21_x4 := i_bd x4
        have bc21_a2 := i_bd a2
        refine lv_iconst (v := 1) C.1 C.2.1 dX9_takeNumber_42 (by decide) ?_
        refine lv_goto (tgt := 47) C.1 C.2.1 dX9_takeNumber_43 (by decide) ?_
        exact x_retzQ hQ B hw rfl (Or.inr ⟨x1, x2, x3, x4, x5, x6, rfl, rfl, (by omega), (by omega), (by omega), (by omega), (by first | omega), (by first | omega), (by first | omega), (by first | omega), (by first | omega | (unfold nf; (repeat first | rw [if_pos (by omega)] | rw [if_neg (by omega)]); all_goals omega))⟩) (Nat.le_of_ble_eq_true rfl) (Nat.le_of_ble_eq_true rfl) dX9_takeNumber_47
      · skip
        have c21 : a2.toInt < x4.toInt := i_leF (X := x4.toInt) (Y := a2.toInt) rfl rfl c21
        have bc21_x4 := i_bd x4
        have bc21_a2 := i_bd a2
        refine lv_aload_n C.1 C.2.1 dX9_takeNumber_34 rfl (lv_at hl 0 rfl) ?_
        refine lv_iconst (v := 2) C.1 C.2.1 dX9_takeNumber_35 (by decide) ?_
        refine x_calliV (As := [.int 2]) (rest := []) (wr := [(qt_keyCodes, eJ G 27 qt_keyCodes_c), (qt_bytes, eB G 940 qt_bytes_c)]) C hw (e_X9_fail qt 2 qt_keyCodes qt_bytes qt_size qt_most x1 x2 x3 x4 x5 x6 qt_faultPlace) mwX9_fail kw555 [0] [1, 2] rfl rfl rfl rfl (by decide) 0 rfl rfl rfl rfl hl.1 rfl (Nat.le_of_ble_eq_true rfl) ⟨(Nat.le_of_ble_eq_true rfl), (Nat.le_of_ble_eq_true rfl)⟩ ⟨(Nat.le_of_ble_eq_true rfl), (Nat.le_of_ble_eq_true rfl)⟩ dX9_takeNumber_36 (fun r22 u9 H locs hp9 hw => ?_)
        obtain ⟨rfl, rfl⟩ := hp9
        have hw : Wd G s A [(qt_keyCodes, eJ G 27 qt_keyCodes_c), (qt_bytes, eB G 940 qt_bytes_c), (qt, .inr (8, [.ref qt_keyCodes, .ref qt_bytes, .int qt_size, .int qt_most, .int x1, .int x2, .int x3, .int x4, .long x5, .int x6, .int 2, .int x3]))] H _ := hw
        refine lv_if_eq (tgt := 46) C.1 C.2.1 dX9_takeNumber_39 (by decide) (fun _ => ?_) (fun h9 => absurd (by decide) h9)
        refine lv_iconst (v := 0) C.1 C.2.1 dX9_takeNumber_46 (by decide) ?_
        have hw := hw.sub (w' := [(qt, .inr (8, [.ref qt_keyCodes, .ref qt_bytes, .int qt_size, .int qt_most, .int x1, .int x2, .int x3, .int x4, .long x5, .int x6, .int 2, .int x3])), (qt_keyCodes, eJ G 27 qt_keyCodes_c), (qt_bytes, eB G 940 qt_bytes_c)]) [2, 0, 1] rfl rfl
        exact x_retzQ hQ B hw rfl (Or.inl ⟨x1, x2, x3, x4, x5, x6, 2, x3, rfl, rfl, (by omega), (by omega), (by omega), (by omega), (by decide), (by omega), (by have e0 : (2 : Int32).toInt = 2 := rfl; first | omega), (by have e0 : (2 : Int32).toInt = 2 := rfl; first | omega | (unfold nf; (repeat first | rw [if_pos (by omega)] | rw [if_neg (by omega)]); all_goals omega)), (by have e0 : (2 : Int32).toInt = 2 := rfl; first | omega | (unfold nf; (repeat first | rw [if_pos (by omega)] | rw [if_neg (by omega)]); all_goals omega))⟩) (Nat.le_of_ble_eq_true rfl) (Nat.le_of_ble_eq_true rfl) dX9_takeNumber_47
  · skip
    have c18 : x2.toInt ≠ 4 := i_eqF (X := x2.toInt) (Y := 4) rfl rfl c18
    refine lv_aload_n C.1 C.2.1 dX9_takeNumber_12 rfl (lv_at hl 0 rfl) ?_
    refine lv_iconst (v := 1) C.1 C.2.1 dX9_takeNumber_13 (by decide) ?_
    refine x_calliV (As := [.int 1]) (rest := []) (wr := [(qt_keyCodes, eJ G 27 qt_keyCodes_c), (qt_bytes, eB G 940 qt_bytes_c)]) C hw (e_X9_fail qt 1 qt_keyCodes qt_bytes qt_size qt_most x1 x2 x3 x4 x5 x6 qt_faultPlace) mwX9_fail kw555 [0] [1, 2] rfl rfl rfl rfl (by decide) 0 rfl rfl rfl rfl hl.1 rfl (Nat.le_of_ble_eq_true rfl) ⟨(Nat.le_of_ble_eq_true rfl), (Nat.le_of_ble_eq_true rfl)⟩ ⟨(Nat.le_of_ble_eq_true rfl), (Nat.le_of_ble_eq_true rfl)⟩ dX9_takeNumber_14 (fun r23 u9 H locs hp9 hw => ?_)
    obtain ⟨rfl, rfl⟩ := hp9
    have hw : Wd G s A [(qt_keyCodes, eJ G 27 qt_keyCodes_c), (qt_bytes, eB G 940 qt_bytes_c), (qt, .inr (8, [.ref qt_keyCodes, .ref qt_bytes, .int qt_size, .int qt_most, .int x1, .int x2, .int x3, .int x4, .long x5, .int x6, .int 1, .int x3]))] H _ := hw
    have hw := hw.sub (w' := [(qt, .inr (8, [.ref qt_keyCodes, .ref qt_bytes, .int qt_size, .int qt_most, .int x1, .int x2, .int x3, .int x4, .long x5, .int x6, .int 1, .int x3])), (qt_keyCodes, eJ G 27 qt_keyCodes_c), (qt_bytes, eB G 940 qt_bytes_c)]) [2, 0, 1] rfl rfl
    exact x_retzQ hQ B hw rfl (Or.inl ⟨x1, x2, x3, x4, x5, x6, 1, x3, rfl, rfl, (by omega), (by omega), (by omega), (by omega), (by decide), (by omega), (by have e0 : (1 : Int32).toInt = 1 := rfl; first | omega), (by have e0 : (1 : Int32).toInt = 1 := rfl; first | omega | (unfold nf; (repeat first | rw [if_pos (by omega)] | rw [if_neg (by omega)]); all_goals omega)), (by have e0 : (1 : Int32).toInt = 1 := rfl; first | omega | (unfold nf; (repeat first | rw [if_pos (by omega)] | rw [if_neg (by omega)]); all_goals omega))⟩) (Nat.le_of_ble_eq_true rfl) (Nat.le_of_ble_eq_true rfl) dX9_takeNumber_17
theorem dX9_takeName_0 : decode cX9_takeName 0 = .ok (.aload_n 0, 1) := by decide +kernel
theorem dX9_takeName_1 : decode cX9_takeName 1 = .ok (.invokevirtual 78, 3) := by decide +kernel
theorem dX9_takeName_4 : decode cX9_takeName 4 = .ok (.aload_n 0, 1) := by decide +kernel
theorem dX9_takeName_5 : decode cX9_takeName 5 = .ok (.getfield 72, 3) := by decide +kernel
theorem dX9_takeName_8 : decode cX9_takeName 8 = .ok (.iconst 2, 1) := by decide +kernel
theorem dX9_takeName_9 : decode cX9_takeName 9 = .ok (.if_icmp .eq 11, 3) := by decide +kernel
theorem dX9_takeName_20 : decode cX9_takeName 20 = .ok (.iconst 1, 1) := by decide +kernel
theorem dX9_takeName_21 : decode cX9_takeName 21 = .ok (.goto 4, 3) := by decide +kernel
theorem dX9_takeName_25 : decode cX9_takeName 25 = .ok (.ireturn, 1) := by decide +kernel
theorem dX9_takeName_12 : decode cX9_takeName 12 = .ok (.aload_n 0, 1) := by decide +kernel
theorem dX9_takeName_13 : decode cX9_takeName 13 = .ok (.iconst 1, 1) := by decide +kernel
theorem dX9_takeName_14 : decode cX9_takeName 14 = .ok (.invokevirtual 81, 3) := by decide +kernel
theorem dX9_takeName_17 : decode cX9_takeName 17 = .ok (.ifCond .eq 7, 3) := by decide +kernel
theorem dX9_takeName_24 : decode cX9_takeName 24 = .ok (.iconst 0, 1) := by decide +kernel
set_option maxHeartbeats 4000000 in
set_option maxRecDepth 100000 in
theorem e_X9_takeName {l : Launch} {G : Gc} (qt : Nat) (qt_keyCodes : Nat) (qt_bytes : Nat) (qt_size : Int32) (qt_most : Int32) (qt_from : Int32) (qt_kind : Int32) (qt_place : Int32) (qt_value : Int32) (qt_code : Int64) (qt_key : Int32) (qt_faultPlace : Int32) (qt_keyCodes_c : Nat → Int64) (qt_bytes_c : Nat → Int32) (b : Int → Int) (hi_qt_from : 0 ≤ qt_from.toInt ∧ qt_from.toInt ≤ 940) (hi_qt_most : 0 ≤ qt_most.toInt ∧ qt_most.toInt ≤ 900) (hi_qt_size : 0 ≤ qt_size.toInt ∧ qt_size.toInt ≤ 940) (hr_0 : tbC b qt_bytes_c qt_size) (hr_1 : kcI qt_keyCodes_c) : Ci l yX9_takeName cX9_takeName 1 (some .boolean) 3 0 0 G [.ref qt] [(qt, .inr (8, [.ref qt_keyCodes, .ref qt_bytes, .int qt_size, .int qt_most, .int qt_from, .int qt_kind, .int qt_place, .int qt_value, .long qt_code, .int qt_key, .int 0, .int qt_faultPlace])), (qt_keyCodes, eJ G 27 qt_keyCodes_c), (qt_bytes, eB G 940 qt_bytes_c)] (fun (r9 : Int32) (u9 : va_W) => (∃ (x0_qt_from : Int32) (x1_qt_kind : Int32) (x2_qt_place : Int32) (x3_qt_value : Int32) (x4_qt_code : Int64) (x5_qt_key : Int32) (x6_qt_faultPlace : Int32), r9 = 0 ∧ u9 = [(qt, .inr (8, [.ref qt_keyCodes, .ref qt_bytes, .int qt_size, .int qt_most, .int x0_qt_from, .int x1_qt_kind, .int x2_qt_place, .int x3_qt_value, .long x4_qt_code, .int x5_qt_key, .int 1, .int x6_qt_faultPlace])), (qt_keyCodes, eJ G 27 qt_keyCodes_c), (qt_bytes, eB G 940 qt_bytes_c)] ∧ (0 ≤ x0_qt_from.toInt ∧ x0_qt_from.toInt ≤ 940) ∧ (0 ≤ x1_qt_kind.toInt ∧ x1_qt_kind.toInt ≤ 5) ∧ (0 ≤ x2_qt_place.toInt ∧ x2_qt_place.toInt ≤ 940) ∧ ((-1) ≤ x5_qt_key.toInt ∧ x5_qt_key.toInt ≤ 33) ∧ (0 ≤ x6_qt_faultPlace.toInt ∧ x6_qt_faultPlace.toInt ≤ 940) ∧ (x6_qt_faultPlace.toInt = tkP b qt_size.toInt qt_most.toInt qt_from.toInt) ∧ (¬ (tkK b qt_size.toInt qt_most.toInt qt_from.toInt = 2 ∧ kyN (tkW b qt_size.toInt qt_from.toInt) = -1) ∧ 1 = 1)) ∨ (∃ (x0_qt_from : Int32) (x1_qt_kind : Int32) (x2_qt_place : Int32) (x3_qt_value : Int32) (x4_qt_code : Int64) (x5_qt_key : Int32), r9 = 1 ∧ u9 = [(qt, .inr (8, [.ref qt_keyCodes, .ref qt_bytes, .int qt_size, .int qt_most, .int x0_qt_from, .int x1_qt_kind, .int x2_qt_place, .int x3_qt_value, .long x4_qt_code, .int x5_qt_key, .int 0, .int qt_faultPlace])), (qt_keyCodes, eJ G 27 qt_keyCodes_c), (qt_bytes, eB G 940 qt_bytes_c)] ∧ (0 ≤ x0_qt_from.toInt ∧ x0_qt_from.toInt ≤ 940) ∧ (2 ≤ x1_qt_kind.toInt ∧ x1_qt_kind.toInt ≤ 2) ∧ (0 ≤ x2_qt_place.toInt ∧ x2_qt_place.toInt ≤ 940) ∧ ((-1) ≤ x5_qt_key.toInt ∧ x5_qt_key.toInt ≤ 33) ∧ (x0_qt_from.toInt = tkX b qt_size.toInt qt_most.toInt qt_from.toInt) ∧ (x2_qt_place.toInt = tkP b qt_size.toInt qt_most.toInt qt_from.toInt) ∧ (tkK b qt_size.toInt qt_most.toInt qt_from.toInt = 2 ∧ kyN (tkW b qt_size.toInt qt_from.toInt) = -1) ∧ (x4_qt_code.toInt = cv (tkW b qt_size.toInt qt_from.toInt)))) := by
  refine Ci.ofQ (by decide) (Nat.le_of_ble_eq_true rfl) ?_
  intro p e s m below meth c ls A args Q hQ B hw hl
  have C : CallFix p m c cX9_takeName 1 s args gw "LanternState$Tape" := B.1
  have hl : lv_has ls 1 [(0, .ref qt)] := hl
  refine lv_aload_n C.1 C.2.1 dX9_takeName_0 rfl (lv_at hl 0 rfl) ?_
  refine x_callvV (As := []) (rest := []) (wr := []) C hw (e_X9_next qt qt_keyCodes qt_bytes qt_size qt_most qt_from qt_kind qt_place qt_value qt_code qt_key 0 qt_faultPlace qt_keyCodes_c qt_bytes_c b (by omega) (by omega) (by omega) hr_0 hr_1) mwX9_next kw554 [0, 1, 2] [] rfl rfl rfl rfl (by decide) 0 rfl rfl rfl rfl hl.1 rfl (Nat.le_of_ble_eq_true rfl) ⟨(Nat.le_of_ble_eq_true rfl), (Nat.le_of_ble_eq_true rfl)⟩ ⟨(Nat.le_of_ble_eq_true rfl), (Nat.le_of_ble_eq_true rfl)⟩ dX9_takeName_1 (fun  u9 H locs hp9 hw => ?_)
  obtain ⟨x1, x2, x3, x4, x5, x6, rfl, hf7, hf8, hf9, hf10, hf11, hf12, hf13, hf14, hf15, hf16, hf17⟩ := hp9
  have hw : Wd G s A [(qt, .inr (8, [.ref qt_keyCodes, .ref qt_bytes, .int qt_size, .int qt_most, .int x1, .int x2, .int x3, .int x4, .long x5, .int x6, .int 0, .int qt_faultPlace])), (qt_keyCodes, eJ G 27 qt_keyCodes_c), (qt_bytes, eB G 940 qt_bytes_c)] H _ := hw
  refine lv_aload_n C.1 C.2.1 dX9_takeName_4 rfl (lv_at hl 0 rfl) ?_
  refine x_get C hw iwX9 8 rfl 0 rfl 5 (by decide) kw97 rfl dX9_takeName_5 ?_
  refine lv_iconst (v := 2) C.1 C.2.1 dX9_takeName_8 (by decide) ?_
  refine lv_icmp_eq (tgt := 20) C.1 C.2.1 dX9_takeName_9 (by decide) (fun c18 => ?_) (fun c18 => ?_)
  · skip
    have c18 : x2.toInt = 2 := i_eqT (X := x2.toInt) (Y := 2) rfl rfl c18
    refine lv_iconst (v := 1) C.1 C.2.1 dX9_takeName_20 (by decide) ?_
    refine lv_goto (tgt := 25) C.1 C.2.1 dX9_takeName_21 (by decide) ?_
    exact x_retzQ hQ B hw rfl (Or.inr ⟨x1, x2, x3, x4, x5, x6, rfl, rfl, (by omega), (by omega), (by omega), (by omega), (by first | omega), (by first | omega), (by first | omega), (by first | omega)⟩) (Nat.le_of_ble_eq_true rfl) (Nat.le_of_ble_eq_true rfl) dX9_takeName_25
  · skip
    have c18 : x2.toInt ≠ 2 := i_eqF (X := x2.toInt) (Y := 2) rfl rfl c18
    refine lv_aload_n C.1 C.2.1 dX9_takeName_12 rfl (lv_at hl 0 rfl) ?_
    refine lv_iconst (v := 1) C.1 C.2.1 dX9_takeName_13 (by decide) ?_
    refine x_calliV (As := [.int 1]) (rest := []) (wr := [(qt_keyCodes, eJ G 27 qt_keyCodes_c), (qt_bytes, eB G 940 qt_bytes_c)]) C hw (e_X9_fail qt 1 qt_keyCodes qt_bytes qt_size qt_most x1 x2 x3 x4 x5 x6 qt_faultPlace) mwX9_fail kw555 [0] [1, 2] rfl rfl rfl rfl (by decide) 0 rfl rfl rfl rfl hl.1 rfl (Nat.le_of_ble_eq_true rfl) ⟨(Nat.le_of_ble_eq_true rfl), (Nat.le_of_ble_eq_true rfl)⟩ ⟨(Nat.le_of_ble_eq_true rfl), (Nat.le_of_ble_eq_true rfl)⟩ dX9_takeName_14 (fun r19 u9 H locs hp9 hw => ?_)
    obtain ⟨rfl, rfl⟩ := hp9
    have hw : Wd G s A [(qt_keyCodes, eJ G 27 qt_keyCodes_c), (qt_bytes, eB G 940 qt_bytes_c), (qt, .inr (8, [.ref qt_keyCodes, .ref qt_bytes, .int qt_size, .int qt_most, .int x1, .int x2, .int x3, .int x4, .long x5, .int x6, .int 1, .int x3]))] H _ := hw
    refine lv_if_eq (tgt := 24) C.1 C.2.1 dX9_takeName_17 (by decide) (fun _ => ?_) (fun h9 => absurd (by decide) h9)
    refine lv_iconst (v := 0) C.1 C.2.1 dX9_takeName_24 (by decide) ?_
    have hw := hw.sub (w' := [(qt, .inr (8, [.ref qt_keyCodes, .ref qt_bytes, .int qt_size, .int qt_most, .int x1, .int x2, .int x3, .int x4, .long x5, .int x6, .int 1, .int x3])), (qt_keyCodes, eJ G 27 qt_keyCodes_c), (qt_bytes, eB G 940 qt_bytes_c)]) [2, 0, 1] rfl rfl
    exact x_retzQ hQ B hw rfl (Or.inl ⟨x1, x2, x3, x4, x5, x6, x3, rfl, rfl, (by omega), (by omega), (by omega), (by omega), (by omega), (by first | omega), (by first | omega)⟩) (Nat.le_of_ble_eq_true rfl) (Nat.le_of_ble_eq_true rfl) dX9_takeName_25
theorem dX9_takeKey_0 : decode cX9_takeKey 0 = .ok (.aload_n 0, 1) := by decide +kernel
theorem dX9_takeKey_1 : decode cX9_takeKey 1 = .ok (.invokevirtual 78, 3) := by decide +kernel
theorem dX9_takeKey_4 : decode cX9_takeKey 4 = .ok (.aload_n 0, 1) := by decide +kernel
theorem dX9_takeKey_5 : decode cX9_takeKey 5 = .ok (.getfield 69, 3) := by decide +kernel
theorem dX9_takeKey_8 : decode cX9_takeKey 8 = .ok (.iload_n 1, 1) := by decide +kernel
theorem dX9_takeKey_9 : decode cX9_takeKey 9 = .ok (.if_icmp .eq 11, 3) := by decide +kernel
theorem dX9_takeKey_20 : decode cX9_takeKey 20 = .ok (.iconst 1, 1) := by decide +kernel
theorem dX9_takeKey_21 : decode cX9_takeKey 21 = .ok (.goto 4, 3) := by decide +kernel
theorem dX9_takeKey_25 : decode cX9_takeKey 25 = .ok (.ireturn, 1) := by decide +kernel
theorem dX9_takeKey_12 : decode cX9_takeKey 12 = .ok (.aload_n 0, 1) := by decide +kernel
theorem dX9_takeKey_13 : decode cX9_takeKey 13 = .ok (.iconst 1, 1) := by decide +kernel
theorem dX9_takeKey_14 : decode cX9_takeKey 14 = .ok (.invokevirtual 81, 3) := by decide +kernel
theorem dX9_takeKey_17 : decode cX9_takeKey 17 = .ok (.ifCond .eq 7, 3) := by decide +kernel
theorem dX9_takeKey_24 : decode cX9_takeKey 24 = .ok (.iconst 0, 1) := by decide +kernel
set_option maxHeartbeats 4000000 in
set_option maxRecDepth 100000 in
theorem e_X9_takeKey {l : Launch} {G : Gc} (qt : Nat) (a1 : Int32) (qt_keyCodes : Nat) (qt_bytes : Nat) (qt_size : Int32) (qt_most : Int32) (qt_from : Int32) (qt_kind : Int32) (qt_place : Int32) (qt_value : Int32) (qt_code : Int64) (qt_key : Int32) (qt_faultPlace : Int32) (qt_keyCodes_c : Nat → Int64) (qt_bytes_c : Nat → Int32) (b : Int → Int) (hi_qt_from : 0 ≤ qt_from.toInt ∧ qt_from.toInt ≤ 940) (hi_qt_most : 0 ≤ qt_most.toInt ∧ qt_most.toInt ≤ 900) (hi_a1 : 0 ≤ a1.toInt ∧ a1.toInt ≤ 26) (hi_qt_size : 0 ≤ qt_size.toInt ∧ qt_size.toInt ≤ 940) (hr_0 : tbC b qt_bytes_c qt_size) (hr_1 : kcI qt_keyCodes_c) : Ci l yX9_takeKey cX9_takeKey 2 (some .boolean) 3 0 0 G [.ref qt, .int a1] [(qt, .inr (8, [.ref qt_keyCodes, .ref qt_bytes, .int qt_size, .int qt_most, .int qt_from, .int qt_kind, .int qt_place, .int qt_value, .long qt_code, .int qt_key, .int 0, .int qt_faultPlace])), (qt_keyCodes, eJ G 27 qt_keyCodes_c), (qt_bytes, eB G 940 qt_bytes_c)] (fun (r9 : Int32) (u9 : va_W) => (∃ (x0_qt_from : Int32) (x1_qt_kind : Int32) (x2_qt_place : Int32) (x3_qt_value : Int32) (x4_qt_code : Int64) (x5_qt_key : Int32) (x6_qt_faultPlace : Int32), r9 = 0 ∧ u9 = [(qt, .inr (8, [.ref qt_keyCodes, .ref qt_bytes, .int qt_size, .int qt_most, .int x0_qt_from, .int x1_qt_kind, .int x2_qt_place, .int x3_qt_value, .long x4_qt_code, .int x5_qt_key, .int 1, .int x6_qt_faultPlace])), (qt_keyCodes, eJ G 27 qt_keyCodes_c), (qt_bytes, eB G 940 qt_bytes_c)] ∧ (0 ≤ x0_qt_from.toInt ∧ x0_qt_from.toInt ≤ 940) ∧ (0 ≤ x1_qt_kind.toInt ∧ x1_qt_kind.toInt ≤ 5) ∧ (0 ≤ x2_qt_place.toInt ∧ x2_qt_place.toInt ≤ 940) ∧ ((-1) ≤ x5_qt_key.toInt ∧ x5_qt_key.toInt ≤ 33) ∧ (0 ≤ x6_qt_faultPlace.toInt ∧ x6_qt_faultPlace.toInt ≤ 940) ∧ (x6_qt_faultPlace.toInt = tkP b qt_size.toInt qt_most.toInt qt_from.toInt) ∧ (¬ (tkK b qt_size.toInt qt_most.toInt qt_from.toInt = 2 ∧ kyN (tkW b qt_size.toInt qt_from.toInt) = a1.toInt) ∧ 1 = 1)) ∨ (∃ (x0_qt_from : Int32) (x1_qt_kind : Int32) (x2_qt_place : Int32) (x3_qt_value : Int32) (x4_qt_code : Int64) (x5_qt_key : Int32), r9 = 1 ∧ u9 = [(qt, .inr (8, [.ref qt_keyCodes, .ref qt_bytes, .int qt_size, .int qt_most, .int x0_qt_from, .int x1_qt_kind, .int x2_qt_place, .int x3_qt_value, .long x4_qt_code, .int x5_qt_key, .int 0, .int qt_faultPlace])), (qt_keyCodes, eJ G 27 qt_keyCodes_c), (qt_bytes, eB G 940 qt_bytes_c)] ∧ (0 ≤ x0_qt_from.toInt ∧ x0_qt_from.toInt ≤ 940) ∧ (0 ≤ x1_qt_kind.toInt ∧ x1_qt_kind.toInt ≤ 5) ∧ (0 ≤ x2_qt_place.toInt ∧ x2_qt_place.toInt ≤ 940) ∧ (0 ≤ x5_qt_key.toInt ∧ x5_qt_key.toInt ≤ 26) ∧ (x0_qt_from.toInt = tkX b qt_size.toInt qt_most.toInt qt_from.toInt) ∧ (x2_qt_place.toInt = tkP b qt_size.toInt qt_most.toInt qt_from.toInt) ∧ (tkK b qt_size.toInt qt_most.toInt qt_from.toInt = 2 ∧ kyN (tkW b qt_size.toInt qt_from.toInt) = a1.toInt))) := by
  refine Ci.ofQ (by decide) (Nat.le_of_ble_eq_true rfl) ?_
  intro p e s m below meth c ls A args Q hQ B hw hl
  have C : CallFix p m c cX9_takeKey 2 s args gw "LanternState$Tape" := B.1
  have hl : lv_has ls 2 [(0, .ref qt), (1, .int a1)] := hl
  refine lv_aload_n C.1 C.2.1 dX9_takeKey_0 rfl (lv_at hl 0 rfl) ?_
  refine x_callvV (As := []) (rest := []) (wr := []) C hw (e_X9_next qt qt_keyCodes qt_bytes qt_size qt_most qt_from qt_kind qt_place qt_value qt_code qt_key 0 qt_faultPlace qt_keyCodes_c qt_bytes_c b (by omega) (by omega) (by omega) hr_0 hr_1) mwX9_next kw554 [0, 1, 2] [] rfl rfl rfl rfl (by decide) 0 rfl rfl rfl rfl hl.1 rfl (Nat.le_of_ble_eq_true rfl) ⟨(Nat.le_of_ble_eq_true rfl), (Nat.le_of_ble_eq_true rfl)⟩ ⟨(Nat.le_of_ble_eq_true rfl), (Nat.le_of_ble_eq_true rfl)⟩ dX9_takeKey_1 (fun  u9 H locs hp9 hw => ?_)
  obtain ⟨x1, x2, x3, x4, x5, x6, rfl, hf7, hf8, hf9, hf10, hf11, hf12, hf13, hf14, hf15, hf16, hf17⟩ := hp9
  have hw : Wd G s A [(qt, .inr (8, [.ref qt_keyCodes, .ref qt_bytes, .int qt_size, .int qt_most, .int x1, .int x2, .int x3, .int x4, .long x5, .int x6, .int 0, .int qt_faultPlace])), (qt_keyCodes, eJ G 27 qt_keyCodes_c), (qt_bytes, eB G 940 qt_bytes_c)] H _ := hw
  refine lv_aload_n C.1 C.2.1 dX9_takeKey_4 rfl (lv_at hl 0 rfl) ?_
  refine x_get C hw iwX9 8 rfl 0 rfl 9 (by decide) kw109 rfl dX9_takeKey_5 ?_
  refine lv_iload_n C.1 C.2.1 dX9_takeKey_8 rfl (lv_at hl 1 rfl) ?_
  refine lv_icmp_eq (tgt := 20) C.1 C.2.1 dX9_takeKey_9 (by decide) (fun c18 => ?_) (fun c18 => ?_)
  · skip
    have c18 : x6.toInt = a1.toInt := i_eqT (X := x6.toInt) (Y := a1.toInt) rfl rfl c18
    refine lv_iconst (v := 1) C.1 C.2.1 dX9_takeKey_20 (by decide) ?_
    refine lv_goto (tgt := 25) C.1 C.2.1 dX9_takeKey_21 (by decide) ?_
    exact x_retzQ hQ B hw rfl (Or.inr ⟨x1, x2, x3, x4, x5, x6, rfl, rfl, (by omega), (by omega), (by omega), (by omega), (by first | omega), (by first | omega), (by first | omega)⟩) (Nat.le_of_ble_eq_true rfl) (Nat.le_of_ble_eq_true rfl) dX9_takeKey_25
  · skip
    have c18 : x6.toInt ≠ a1.toInt := i_eqF (X := x6.toInt) (Y := a1.toInt) rfl rfl c18
    refine lv_aload_n C.1 C.2.1 dX9_takeKey_12 rfl (lv_at hl 0 rfl) ?_
    refine lv_iconst (v := 1) C.1 C.2.1 dX9_takeKey_13 (by decide) ?_
    refine x_calliV (As := [.int 1]) (rest := []) (wr := [(qt_keyCodes, eJ G 27 qt_keyCodes_c), (qt_bytes, eB G 940 qt_bytes_c)]) C hw (e_X9_fail qt 1 qt_keyCodes qt_bytes qt_size qt_most x1 x2 x3 x4 x5 x6 qt_faultPlace) mwX9_fail kw555 [0] [1, 2] rfl rfl rfl rfl (by decide) 0 rfl rfl rfl rfl hl.1 rfl (Nat.le_of_ble_eq_true rfl) ⟨(Nat.le_of_ble_eq_true rfl), (Nat.le_of_ble_eq_true rfl)⟩ ⟨(Nat.le_of_ble_eq_true rfl), (Nat.le_of_ble_eq_true rfl)⟩ dX9_takeKey_14 (fun r19 u9 H locs hp9 hw => ?_)
    obtain ⟨rfl, rfl⟩ := hp9
    have hw : Wd G s A [(qt_keyCodes, eJ G 27 qt_keyCodes_c), (qt_bytes, eB G 940 qt_bytes_c), (qt, .inr (8, [.ref qt_keyCodes, .ref qt_bytes, .int qt_size, .int qt_most, .int x1, .int x2, .int x3, .int x4, .long x5, .int x6, .int 1, .int x3]))] H _ := hw
    refine lv_if_eq (tgt := 24) C.1 C.2.1 dX9_takeKey_17 (by decide) (fun _ => ?_) (fun h9 => absurd (by decide) h9)
    refine lv_iconst (v := 0) C.1 C.2.1 dX9_takeKey_24 (by decide) ?_
    have hw := hw.sub (w' := [(qt, .inr (8, [.ref qt_keyCodes, .ref qt_bytes, .int qt_size, .int qt_most, .int x1, .int x2, .int x3, .int x4, .long x5, .int x6, .int 1, .int x3])), (qt_keyCodes, eJ G 27 qt_keyCodes_c), (qt_bytes, eB G 940 qt_bytes_c)]) [2, 0, 1] rfl rfl
    exact x_retzQ hQ B hw rfl (Or.inl ⟨x1, x2, x3, x4, x5, x6, x3, rfl, rfl, (by omega), (by omega), (by omega), (by omega), (by omega), (by first | omega), (by first | omega)⟩) (Nat.le_of_ble_eq_true rfl) (Nat.le_of_ble_eq_true rfl) dX9_takeKey_25
theorem dX9_takeSeat_0 : decode cX9_takeSeat 0 = .ok (.aload_n 0, 1) := by decide +kernel
theorem dX9_takeSeat_1 : decode cX9_takeSeat 1 = .ok (.invokevirtual 78, 3) := by decide +kernel
theorem dX9_takeSeat_4 : decode cX9_takeSeat 4 = .ok (.aload_n 0, 1) := by decide +kernel
theorem dX9_takeSeat_5 : decode cX9_takeSeat 5 = .ok (.getfield 69, 3) := by decide +kernel
theorem dX9_takeSeat_8 : decode cX9_takeSeat 8 = .ok (.bipush 9, 2) := by decide +kernel
theorem dX9_takeSeat_10 : decode cX9_takeSeat 10 = .ok (.if_icmp .eq 20, 3) := by decide +kernel
theorem dX9_takeSeat_30 : decode cX9_takeSeat 30 = .ok (.iconst 1, 1) := by decide +kernel
theorem dX9_takeSeat_31 : decode cX9_takeSeat 31 = .ok (.goto 4, 3) := by decide +kernel
theorem dX9_takeSeat_35 : decode cX9_takeSeat 35 = .ok (.ireturn, 1) := by decide +kernel
theorem dX9_takeSeat_13 : decode cX9_takeSeat 13 = .ok (.aload_n 0, 1) := by decide +kernel
theorem dX9_takeSeat_14 : decode cX9_takeSeat 14 = .ok (.getfield 69, 3) := by decide +kernel
theorem dX9_takeSeat_17 : decode cX9_takeSeat 17 = .ok (.bipush 10, 2) := by decide +kernel
theorem dX9_takeSeat_19 : decode cX9_takeSeat 19 = .ok (.if_icmp .eq 11, 3) := by decide +kernel
theorem dX9_takeSeat_22 : decode cX9_takeSeat 22 = .ok (.aload_n 0, 1) := by decide +kernel
theorem dX9_takeSeat_23 : decode cX9_takeSeat 23 = .ok (.iconst 1, 1) := by decide +kernel
theorem dX9_takeSeat_24 : decode cX9_takeSeat 24 = .ok (.invokevirtual 81, 3) := by decide +kernel
theorem dX9_takeSeat_27 : decode cX9_takeSeat 27 = .ok (.ifCond .eq 7, 3) := by decide +kernel
theorem dX9_takeSeat_34 : decode cX9_takeSeat 34 = .ok (.iconst 0, 1) := by decide +kernel
set_option maxHeartbeats 4000000 in
set_option maxRecDepth 100000 in
theorem e_X9_takeSeat {l : Launch} {G : Gc} (qt : Nat) (qt_keyCodes : Nat) (qt_bytes : Nat) (qt_size : Int32) (qt_most : Int32) (qt_from : Int32) (qt_kind : Int32) (qt_place : Int32) (qt_value : Int32) (qt_code : Int64) (qt_key : Int32) (qt_faultPlace : Int32) (qt_keyCodes_c : Nat → Int64) (qt_bytes_c : Nat → Int32) (b : Int → Int) (hi_qt_from : 0 ≤ qt_from.toInt ∧ qt_from.toInt ≤ 940) (hi_qt_most : 0 ≤ qt_most.toInt ∧ qt_most.toInt ≤ 900) (hi_qt_size : 0 ≤ qt_size.toInt ∧ qt_size.toInt ≤ 940) (hr_0 : tbC b qt_bytes_c qt_size) (hr_1 : kcI qt_keyCodes_c) : Ci l yX9_takeSeat cX9_takeSeat 1 (some .boolean) 3 0 0 G [.ref qt] [(qt, .inr (8, [.ref qt_keyCodes, .ref qt_bytes, .int qt_size, .int qt_most, .int qt_from, .int qt_kind, .int qt_place, .int qt_value, .long qt_code, .int qt_key, .int 0, .int qt_faultPlace])), (qt_keyCodes, eJ G 27 qt_keyCodes_c), (qt_bytes, eB G 940 qt_bytes_c)] (fun (r9 : Int32) (u9 : va_W) => (∃ (x0_qt_from : Int32) (x1_qt_kind : Int32) (x2_qt_place : Int32) (x3_qt_value : Int32) (x4_qt_code : Int64) (x5_qt_key : Int32) (x6_qt_faultPlace : Int32), r9 = 0 ∧ u9 = [(qt, .inr (8, [.ref qt_keyCodes, .ref qt_bytes, .int qt_size, .int qt_most, .int x0_qt_from, .int x1_qt_kind, .int x2_qt_place, .int x3_qt_value, .long x4_qt_code, .int x5_qt_key, .int 1, .int x6_qt_faultPlace])), (qt_keyCodes, eJ G 27 qt_keyCodes_c), (qt_bytes, eB G 940 qt_bytes_c)] ∧ (0 ≤ x0_qt_from.toInt ∧ x0_qt_from.toInt ≤ 940) ∧ (0 ≤ x1_qt_kind.toInt ∧ x1_qt_kind.toInt ≤ 5) ∧ (0 ≤ x2_qt_place.toInt ∧ x2_qt_place.toInt ≤ 940) ∧ ((-1) ≤ x5_qt_key.toInt ∧ x5_qt_key.toInt ≤ 33) ∧ (0 ≤ x6_qt_faultPlace.toInt ∧ x6_qt_faultPlace.toInt ≤ 940) ∧ (x6_qt_faultPlace.toInt = tkP b qt_size.toInt qt_most.toInt qt_from.toInt) ∧ (¬ (tkK b qt_size.toInt qt_most.toInt qt_from.toInt = 2 ∧ (kyN (tkW b qt_size.toInt qt_from.toInt) = 9 ∨ kyN (tkW b qt_size.toInt qt_from.toInt) = 10)) ∧ 1 = 1)) ∨ (∃ (x0_qt_from : Int32) (x1_qt_kind : Int32) (x2_qt_place : Int32) (x3_qt_value : Int32) (x4_qt_code : Int64) (x5_qt_key : Int32), r9 = 1 ∧ u9 = [(qt, .inr (8, [.ref qt_keyCodes, .ref qt_bytes, .int qt_size, .int qt_most, .int x0_qt_from, .int x1_qt_kind, .int x2_qt_place, .int x3_qt_value, .long x4_qt_code, .int x5_qt_key, .int 0, .int qt_faultPlace])), (qt_keyCodes, eJ G 27 qt_keyCodes_c), (qt_bytes, eB G 940 qt_bytes_c)] ∧ (0 ≤ x0_qt_from.toInt ∧ x0_qt_from.toInt ≤ 940) ∧ (0 ≤ x1_qt_kind.toInt ∧ x1_qt_kind.toInt ≤ 5) ∧ (0 ≤ x2_qt_place.toInt ∧ x2_qt_place.toInt ≤ 940) ∧ (9 ≤ x5_qt_key.toInt ∧ x5_qt_key.toInt ≤ 10) ∧ (x0_qt_from.toInt = tkX b qt_size.toInt qt_most.toInt qt_from.toInt) ∧ (x2_qt_place.toInt = tkP b qt_size.toInt qt_most.toInt qt_from.toInt) ∧ (tkK b qt_size.toInt qt_most.toInt qt_from.toInt = 2 ∧ (kyN (tkW b qt_size.toInt qt_from.toInt) = 9 ∨ kyN (tkW b qt_size.toInt qt_from.toInt) = 10)) ∧ (x5_qt_key.toInt = kyN (tkW b qt_size.toInt qt_from.toInt)))) := by
  refine Ci.ofQ (by decide) (Nat.le_of_ble_eq_true rfl) ?_
  intro p e s m below meth c ls A args Q hQ B hw hl
  have C : CallFix p m c cX9_takeSeat 1 s args gw "LanternState$Tape" := B.1
  have hl : lv_has ls 1 [(0, .ref qt)] := hl
  refine lv_aload_n C.1 C.2.1 dX9_takeSeat_0 rfl (lv_at hl 0 rfl) ?_
  refine x_callvV (As := []) (rest := []) (wr := []) C hw (e_X9_next qt qt_keyCodes qt_bytes qt_size qt_most qt_from qt_kind qt_place qt_value qt_code qt_key 0 qt_faultPlace qt_keyCodes_c qt_bytes_c b (by omega) (by omega) (by omega) hr_0 hr_1) mwX9_next kw554 [0, 1, 2] [] rfl rfl rfl rfl (by decide) 0 rfl rfl rfl rfl hl.1 rfl (Nat.le_of_ble_eq_true rfl) ⟨(Nat.le_of_ble_eq_true rfl), (Nat.le_of_ble_eq_true rfl)⟩ ⟨(Nat.le_of_ble_eq_true rfl), (Nat.le_of_ble_eq_true rfl)⟩ dX9_takeSeat_1 (fun  u9 H locs hp9 hw => ?_)
  obtain ⟨x1, x2, x3, x4, x5, x6, rfl, hf7, hf8, hf9, hf10, hf11, hf12, hf13, hf14, hf15, hf16, hf17⟩ := hp9
  have hw : Wd G s A [(qt, .inr (8, [.ref qt_keyCodes, .ref qt_bytes, .int qt_size, .int qt_most, .int x1, .int x2, .int x3, .int x4, .long x5, .int x6, .int 0, .int qt_faultPlace])), (qt_keyCodes, eJ G 27 qt_keyCodes_c), (qt_bytes, eB G 940 qt_bytes_c)] H _ := hw
  refine lv_aload_n C.1 C.2.1 dX9_takeSeat_4 rfl (lv_at hl 0 rfl) ?_
  refine x_get C hw iwX9 8 rfl 0 rfl 9 (by decide) kw109 rfl dX9_takeSeat_5 ?_
  refine lv_bipush (v := 9) C.1 C.2.1 dX9_takeSeat_8 (by decide) ?_
  refine lv_icmp_eq (tgt := 30) C.1 C.2.1 dX9_takeSeat_10 (by decide) (fun c18 => ?_) (fun c18 => ?_)
  · skip
    have c18 : x6.toInt = 9 := i_eqT (X := x6.toInt) (Y := 9) rfl rfl c18
    refine lv_iconst (v := 1) C.1 C.2.1 dX9_takeSeat_30 (by decide) ?_
    refine lv_goto (tgt := 35) C.1 C.2.1 dX9_takeSeat_31 (by decide) ?_
    exact x_retzQ hQ B hw rfl (Or.inr ⟨x1, x2, x3, x4, x5, x6, rfl, rfl, (by omega), (by omega), (by omega), (by omega), (by first | omega), (by first | omega), (by first | omega), (by first | omega)⟩) (Nat.le_of_ble_eq_true rfl) (Nat.le_of_ble_eq_true rfl) dX9_takeSeat_35
  · skip
    have c18 : x6.toInt ≠ 9 := i_eqF (X := x6.toInt) (Y := 9) rfl rfl c18
    refine lv_aload_n C.1 C.2.1 dX9_takeSeat_13 rfl (lv_at hl 0 rfl) ?_
    refine x_get C hw iwX9 8 rfl 0 rfl 9 (by decide) kw109 rfl dX9_takeSeat_14 ?_
    refine lv_bipush (v := 10) C.1 C.2.1 dX9_takeSeat_17 (by decide) ?_
    refine lv_icmp_eq (tgt := 30) C.1 C.2.1 dX9_takeSeat_19 (by decide) (fun c19 => ?_) (fun c19 => ?_)
    · skip
      have c19 : x6.toInt = 10 := i_eqT (X := x6.toInt) (Y := 10) rfl rfl c19
      refine lv_iconst (v := 1) C.1 C.2.1 dX9_takeSeat_30 (by decide) ?_
      refine lv_goto (tgt := 35) C.1 C.2.1 dX9_takeSeat_31 (by decide) ?_
      exact x_retzQ hQ B hw rfl (Or.inr ⟨x1, x2, x3, x4, x5, x6, rfl, rfl, (by omega), (by omega), (by omega), (by omega), (by first | omega), (by first | omega), (by first | omega), (by first | omega)⟩) (Nat.le_of_ble_eq_true rfl) (Nat.le_of_ble_eq_true rfl) dX9_takeSeat_35
    · skip
      have c19 : x6.toInt ≠ 10 := i_eqF (X := x6.toInt) (Y := 10) rfl rfl c19
      refine lv_aload_n C.1 C.2.1 dX9_takeSeat_22 rfl (lv_at hl 0 rfl) ?_
      refine lv_iconst (v := 1) C.1 C.2.1 dX9_takeSeat_23 (by decide) ?_
      refine x_calliV (As := [.int 1]) (rest := []) (wr := [(qt_keyCodes, eJ G 27 qt_keyCodes_c), (qt_bytes, eB G 940 qt_bytes_c)]) C hw (e_X9_fail qt 1 qt_keyCodes qt_bytes qt_size qt_most x1 x2 x3 x4 x5 x6 qt_faultPlace) mwX9_fail kw555 [0] [1, 2] rfl rfl rfl rfl (by decide) 0 rfl rfl rfl rfl hl.1 rfl (Nat.le_of_ble_eq_true rfl) ⟨(Nat.le_of_ble_eq_true rfl), (Nat.le_of_ble_eq_true rfl)⟩ ⟨(Nat.le_of_ble_eq_true rfl), (Nat.le_of_ble_eq_true rfl)⟩ dX9_takeSeat_24 (fun r20 u9 H locs hp9 hw => ?_)
      obtain ⟨rfl, rfl⟩ := hp9
      have hw : Wd G s A [(qt_keyCodes, eJ G 27 qt_keyCodes_c), (qt_bytes, eB G 940 qt_bytes_c), (qt, .inr (8, [.ref qt_keyCodes, .ref qt_bytes, .int qt_size, .int qt_most, .int x1, .int x2, .int x3, .int x4, .long x5, .int x6, .int 1, .int x3]))] H _ := hw
      refine lv_if_eq (tgt := 34) C.1 C.2.1 dX9_takeSeat_27 (by decide) (fun _ => ?_) (fun h9 => absurd (by decide) h9)
      refine lv_iconst (v := 0) C.1 C.2.1 dX9_takeSeat_34 (by decide) ?_
      have hw := hw.sub (w' := [(qt, .inr (8, [.ref qt_keyCodes, .ref qt_bytes, .int qt_size, .int qt_most, .int x1, .int x2, .int x3, .int x4, .long x5, .int x6, .int 1, .int x3])), (qt_keyCodes, eJ G 27 qt_keyCodes_c), (qt_bytes, eB G 940 qt_bytes_c)]) [2, 0, 1] rfl rfl
      exact x_retzQ hQ B hw rfl (Or.inl ⟨x1, x2, x3, x4, x5, x6, x3, rfl, rfl, (by omega), (by omega), (by omega), (by omega), (by omega), (by first | omega), (by first | omega)⟩) (Nat.le_of_ble_eq_true rfl) (Nat.le_of_ble_eq_true rfl) dX9_takeSeat_35
theorem dX9_takeLineEnd_0 : decode cX9_takeLineEnd 0 = .ok (.aload_n 0, 1) := by decide +kernel
theorem dX9_takeLineEnd_1 : decode cX9_takeLineEnd 1 = .ok (.invokevirtual 78, 3) := by decide +kernel
theorem dX9_takeLineEnd_4 : decode cX9_takeLineEnd 4 = .ok (.aload_n 0, 1) := by decide +kernel
theorem dX9_takeLineEnd_5 : decode cX9_takeLineEnd 5 = .ok (.bipush 59, 2) := by decide +kernel
theorem dX9_takeLineEnd_7 : decode cX9_takeLineEnd 7 = .ok (.invokevirtual 85, 3) := by decide +kernel
theorem mwX9_isSign : MwV yX9_isSign cX9_isSign 2 (some .boolean) 1 := ⟨⟨kw621, kw2, by decide +kernel⟩, kw619, kw620⟩
theorem dX9_takeLineEnd_10 : decode cX9_takeLineEnd 10 = .ok (.ifCond .ne 11, 3) := by decide +kernel
theorem dX9_takeLineEnd_13 : decode cX9_takeLineEnd 13 = .ok (.aload_n 0, 1) := by decide +kernel
theorem dX9_takeLineEnd_14 : decode cX9_takeLineEnd 14 = .ok (.iconst 1, 1) := by decide +kernel
theorem dX9_takeLineEnd_15 : decode cX9_takeLineEnd 15 = .ok (.invokevirtual 81, 3) := by decide +kernel
theorem dX9_takeLineEnd_18 : decode cX9_takeLineEnd 18 = .ok (.ifCond .eq 7, 3) := by decide +kernel
theorem dX9_takeLineEnd_25 : decode cX9_takeLineEnd 25 = .ok (.iconst 0, 1) := by decide +kernel
theorem dX9_takeLineEnd_26 : decode cX9_takeLineEnd 26 = .ok (.ireturn, 1) := by decide +kernel
theorem dX9_takeLineEnd_21 : decode cX9_takeLineEnd 21 = .ok (.iconst 1, 1) := by decide +kernel
theorem dX9_takeLineEnd_22 : decode cX9_takeLineEnd 22 = .ok (.goto 4, 3) := by decide +kernel
set_option maxHeartbeats 4000000 in
set_option maxRecDepth 100000 in
theorem e_X9_takeLineEnd {l : Launch} {G : Gc} (qt : Nat) (qt_keyCodes : Nat) (qt_bytes : Nat) (qt_size : Int32) (qt_most : Int32) (qt_from : Int32) (qt_kind : Int32) (qt_place : Int32) (qt_value : Int32) (qt_code : Int64) (qt_key : Int32) (qt_faultPlace : Int32) (qt_keyCodes_c : Nat → Int64) (qt_bytes_c : Nat → Int32) (b : Int → Int) (hi_qt_from : 0 ≤ qt_from.toInt ∧ qt_from.toInt ≤ 940) (hi_qt_most : 0 ≤ qt_most.toInt ∧ qt_most.toInt ≤ 900) (hi_qt_size : 0 ≤ qt_size.toInt ∧ qt_size.toInt ≤ 940) (hr_0 : tbC b qt_bytes_c qt_size) (hr_1 : kcI qt_keyCodes_c) : Ci l yX9_takeLineEnd cX9_takeLineEnd 1 (some .boolean) 3 0 0 G [.ref qt] [(qt, .inr (8, [.ref qt_keyCodes, .ref qt_bytes, .int qt_size, .int qt_most, .int qt_from, .int qt_kind, .int qt_place, .int qt_value, .long qt_code, .int qt_key, .int 0, .int qt_faultPlace])), (qt_keyCodes, eJ G 27 qt_keyCodes_c), (qt_bytes, eB G 940 qt_bytes_c)] (fun (r9 : Int32) (u9 : va_W) => (∃ (x0_qt_from : Int32) (x1_qt_kind : Int32) (x2_qt_place : Int32) (x3_qt_value : Int32) (x4_qt_code : Int64) (x5_qt_key : Int32) (x6_qt_faultPlace : Int32), r9 = 0 ∧ u9 = [(qt, .inr (8, [.ref qt_keyCodes, .ref qt_bytes, .int qt_size, .int qt_most, .int x0_qt_from, .int x1_qt_kind, .int x2_qt_place, .int x3_qt_value, .long x4_qt_code, .int x5_qt_key, .int 1, .int x6_qt_faultPlace])), (qt_keyCodes, eJ G 27 qt_keyCodes_c), (qt_bytes, eB G 940 qt_bytes_c)] ∧ (0 ≤ x0_qt_from.toInt ∧ x0_qt_from.toInt ≤ 940) ∧ (0 ≤ x1_qt_kind.toInt ∧ x1_qt_kind.toInt ≤ 5) ∧ (0 ≤ x2_qt_place.toInt ∧ x2_qt_place.toInt ≤ 940) ∧ ((-1) ≤ x5_qt_key.toInt ∧ x5_qt_key.toInt ≤ 33) ∧ (0 ≤ x6_qt_faultPlace.toInt ∧ x6_qt_faultPlace.toInt ≤ 940) ∧ (x6_qt_faultPlace.toInt = tkP b qt_size.toInt qt_most.toInt qt_from.toInt) ∧ (¬ (tkK b qt_size.toInt qt_most.toInt qt_from.toInt = 4 ∧ tkG b qt_size.toInt qt_from.toInt = 59) ∧ 1 = 1)) ∨ (∃ (x0_qt_from : Int32) (x1_qt_kind : Int32) (x2_qt_place : Int32) (x3_qt_value : Int32) (x4_qt_code : Int64) (x5_qt_key : Int32), r9 = 1 ∧ u9 = [(qt, .inr (8, [.ref qt_keyCodes, .ref qt_bytes, .int qt_size, .int qt_most, .int x0_qt_from, .int x1_qt_kind, .int x2_qt_place, .int x3_qt_value, .long x4_qt_code, .int x5_qt_key, .int 0, .int qt_faultPlace])), (qt_keyCodes, eJ G 27 qt_keyCodes_c), (qt_bytes, eB G 940 qt_bytes_c)] ∧ (0 ≤ x0_qt_from.toInt ∧ x0_qt_from.toInt ≤ 940) ∧ (0 ≤ x1_qt_kind.toInt ∧ x1_qt_kind.toInt ≤ 5) ∧ (0 ≤ x2_qt_place.toInt ∧ x2_qt_place.toInt ≤ 940) ∧ ((-1) ≤ x5_qt_key.toInt ∧ x5_qt_key.toInt ≤ 33) ∧ (x0_qt_from.toInt = tkX b qt_size.toInt qt_most.toInt qt_from.toInt) ∧ (x2_qt_place.toInt = tkP b qt_size.toInt qt_most.toInt qt_from.toInt) ∧ (tkK b qt_size.toInt qt_most.toInt qt_from.toInt = 4 ∧ tkG b qt_size.toInt qt_from.toInt = 59))) := by
  refine Ci.ofQ (by decide) (Nat.le_of_ble_eq_true rfl) ?_
  intro p e s m below meth c ls A args Q hQ B hw hl
  have C : CallFix p m c cX9_takeLineEnd 1 s args gw "LanternState$Tape" := B.1
  have hl : lv_has ls 1 [(0, .ref qt)] := hl
  refine lv_aload_n C.1 C.2.1 dX9_takeLineEnd_0 rfl (lv_at hl 0 rfl) ?_
  refine x_callvV (As := []) (rest := []) (wr := []) C hw (e_X9_next qt qt_keyCodes qt_bytes qt_size qt_most qt_from qt_kind qt_place qt_value qt_code qt_key 0 qt_faultPlace qt_keyCodes_c qt_bytes_c b (by omega) (by omega) (by omega) hr_0 hr_1) mwX9_next kw554 [0, 1, 2] [] rfl rfl rfl rfl (by decide) 0 rfl rfl rfl rfl hl.1 rfl (Nat.le_of_ble_eq_true rfl) ⟨(Nat.le_of_ble_eq_true rfl), (Nat.le_of_ble_eq_true rfl)⟩ ⟨(Nat.le_of_ble_eq_true rfl), (Nat.le_of_ble_eq_true rfl)⟩ dX9_takeLineEnd_1 (fun  u9 H locs hp9 hw => ?_)
  obtain ⟨x1, x2, x3, x4, x5, x6, rfl, hf7, hf8, hf9, hf10, hf11, hf12, hf13, hf14, hf15, hf16, hf17⟩ := hp9
  have hw : Wd G s A [(qt, .inr (8, [.ref qt_keyCodes, .ref qt_bytes, .int qt_size, .int qt_most, .int x1, .int x2, .int x3, .int x4, .long x5, .int x6, .int 0, .int qt_faultPlace])), (qt_keyCodes, eJ G 27 qt_keyCodes_c), (qt_bytes, eB G 940 qt_bytes_c)] H _ := hw
  refine lv_aload_n C.1 C.2.1 dX9_takeLineEnd_4 rfl (lv_at hl 0 rfl) ?_
  refine lv_bipush (v := 59) C.1 C.2.1 dX9_takeLineEnd_5 (by decide) ?_
  refine x_calliV (As := [.int 59]) (rest := []) (wr := [(qt_keyCodes, eJ G 27 qt_keyCodes_c), (qt_bytes, eB G 940 qt_bytes_c)]) C hw (e_X9_isSign qt 59 qt_keyCodes qt_bytes qt_size qt_most x1 x2 x3 x4 x5 x6 0 qt_faultPlace) mwX9_isSign kw618 [0] [1, 2] rfl rfl rfl rfl (by decide) 0 rfl rfl rfl rfl hl.1 rfl (Nat.le_of_ble_eq_true rfl) ⟨(Nat.le_of_ble_eq_true rfl), (Nat.le_of_ble_eq_true rfl)⟩ ⟨(Nat.le_of_ble_eq_true rfl), (Nat.le_of_ble_eq_true rfl)⟩ dX9_takeLineEnd_7 (fun r18 u9 H locs hp9 hw => ?_)
  rcases hp9 with ⟨rfl, rfl, hf19⟩ | ⟨rfl, rfl, hf20⟩
  · skip
    have hw : Wd G s A [(qt_keyCodes, eJ G 27 qt_keyCodes_c), (qt_bytes, eB G 940 qt_bytes_c), (qt, .inr (8, [.ref qt_keyCodes, .ref qt_bytes, .int qt_size, .int qt_most, .int x1, .int x2, .int x3, .int x4, .long x5, .int x6, .int 0, .int qt_faultPlace]))] H _ := hw
    have hf19 : ¬ (x2.toInt = 5 ∧ x4.toInt = 59) := by first | exact hf19 | (have e0 : (59 : Int32).toInt = 59 := rfl; omega)
    refine lv_if_ne (tgt := 21) C.1 C.2.1 dX9_takeLineEnd_10 (by decide) (fun h9 => absurd (by decide) h9) (fun _ => ?_)
    refine lv_aload_n C.1 C.2.1 dX9_takeLineEnd_13 rfl (lv_at hl 0 rfl) ?_
    refine lv_iconst (v := 1) C.1 C.2.1 dX9_takeLineEnd_14 (by decide) ?_
    refine x_calliV (As := [.int 1]) (rest := []) (wr := [(qt_keyCodes, eJ G 27 qt_keyCodes_c), (qt_bytes, eB G 940 qt_bytes_c)]) C hw (e_X9_fail qt 1 qt_keyCodes qt_bytes qt_size qt_most x1 x2 x3 x4 x5 x6 qt_faultPlace) mwX9_fail kw555 [2] [0, 1] rfl rfl rfl rfl (by decide) 0 rfl rfl rfl rfl hl.1 rfl (Nat.le_of_ble_eq_true rfl) ⟨(Nat.le_of_ble_eq_true rfl), (Nat.le_of_ble_eq_true rfl)⟩ ⟨(Nat.le_of_ble_eq_true rfl), (Nat.le_of_ble_eq_true rfl)⟩ dX9_takeLineEnd_15 (fun r21 u9 H locs hp9 hw => ?_)
    obtain ⟨rfl, rfl⟩ := hp9
    have hw : Wd G s A [(qt_keyCodes, eJ G 27 qt_keyCodes_c), (qt_bytes, eB G 940 qt_bytes_c), (qt, .inr (8, [.ref qt_keyCodes, .ref qt_bytes, .int qt_size, .int qt_most, .int x1, .int x2, .int x3, .int x4, .long x5, .int x6, .int 1, .int x3]))] H _ := hw
    refine lv_if_eq (tgt := 25) C.1 C.2.1 dX9_takeLineEnd_18 (by decide) (fun _ => ?_) (fun h9 => absurd (by decide) h9)
    refine lv_iconst (v := 0) C.1 C.2.1 dX9_takeLineEnd_25 (by decide) ?_
    have hw := hw.sub (w' := [(qt, .inr (8, [.ref qt_keyCodes, .ref qt_bytes, .int qt_size, .int qt_most, .int x1, .int x2, .int x3, .int x4, .long x5, .int x6, .int 1, .int x3])), (qt_keyCodes, eJ G 27 qt_keyCodes_c), (qt_bytes, eB G 940 qt_bytes_c)]) [2, 0, 1] rfl rfl
    exact x_retzQ hQ B hw rfl (Or.inl ⟨x1, x2, x3, x4, x5, x6, x3, rfl, rfl, (by omega), (by omega), (by omega), (by omega), (by omega), (by first | omega), (by first | omega)⟩) (Nat.le_of_ble_eq_true rfl) (Nat.le_of_ble_eq_true rfl) dX9_takeLineEnd_26
  · skip
    have hw : Wd G s A [(qt_keyCodes, eJ G 27 qt_keyCodes_c), (qt_bytes, eB G 940 qt_bytes_c), (qt, .inr (8, [.ref qt_keyCodes, .ref qt_bytes, .int qt_size, .int qt_most, .int x1, .int x2, .int x3, .int x4, .long x5, .int x6, .int 0, .int qt_faultPlace]))] H _ := hw
    have hf20 : x2.toInt = 5 ∧ x4.toInt = 59 := by first | exact hf20 | (have e0 : (59 : Int32).toInt = 59 := rfl; omega)
    refine lv_if_ne (tgt := 21) C.1 C.2.1 dX9_takeLineEnd_10 (by decide) (fun _ => ?_) (fun h9 => absurd h9 (by decide))
    refine lv_iconst (v := 1) C.1 C.2.1 dX9_takeLineEnd_21 (by decide) ?_
    refine lv_goto (tgt := 26) C.1 C.2.1 dX9_takeLineEnd_22 (by decide) ?_
    have hw := hw.sub (w' := [(qt, .inr (8, [.ref qt_keyCodes, .ref qt_bytes, .int qt_size, .int qt_most, .int x1, .int x2, .int x3, .int x4, .long x5, .int x6, .int 0, .int qt_faultPlace])), (qt_keyCodes, eJ G 27 qt_keyCodes_c), (qt_bytes, eB G 940 qt_bytes_c)]) [2, 0, 1] rfl rfl
    exact x_retzQ hQ B hw rfl (Or.inr ⟨x1, x2, x3, x4, x5, x6, rfl, rfl, (by omega), (by omega), (by omega), (by omega), (by first | omega), (by first | omega), (by first | omega)⟩) (Nat.le_of_ble_eq_true rfl) (Nat.le_of_ble_eq_true rfl) dX9_takeLineEnd_26
theorem dX9_open_0 : decode cX9_open 0 = .ok (.aload_n 0, 1) := by decide +kernel
theorem dX9_open_1 : decode cX9_open 1 = .ok (.iload_n 1, 1) := by decide +kernel
theorem dX9_open_2 : decode cX9_open 2 = .ok (.putfield 47, 3) := by decide +kernel
theorem dX9_open_5 : decode cX9_open 5 = .ok (.aload_n 0, 1) := by decide +kernel
theorem dX9_open_6 : decode cX9_open 6 = .ok (.iconst 0, 1) := by decide +kernel
theorem dX9_open_7 : decode cX9_open 7 = .ok (.putfield 50, 3) := by decide +kernel
theorem dX9_open_10 : decode cX9_open 10 = .ok (.aload_n 0, 1) := by decide +kernel
theorem dX9_open_11 : decode cX9_open 11 = .ok (.iconst 0, 1) := by decide +kernel
theorem dX9_open_12 : decode cX9_open 12 = .ok (.putfield 53, 3) := by decide +kernel
theorem dX9_open_15 : decode cX9_open 15 = .ok (.aload_n 0, 1) := by decide +kernel
theorem dX9_open_16 : decode cX9_open 16 = .ok (.iconst 0, 1) := by decide +kernel
theorem dX9_open_17 : decode cX9_open 17 = .ok (.putfield 56, 3) := by decide +kernel
theorem dX9_open_20 : decode cX9_open 20 = .ok (.return_, 1) := by decide +kernel
set_option maxHeartbeats 4000000 in
set_option maxRecDepth 100000 in
theorem e_X9_open {l : Launch} {G : Gc} (qt : Nat) (a1 : Int32) (qt_keyCodes : Nat) (qt_bytes : Nat) (qt_size : Int32) (qt_most : Int32) (qt_from : Int32) (qt_kind : Int32) (qt_place : Int32) (qt_value : Int32) (qt_code : Int64) (qt_key : Int32) (qt_fault : Int32) (qt_faultPlace : Int32)  : Cv l yX9_open cX9_open 2 0 0 0 G [.ref qt, .int a1] [(qt, .inr (8, [.ref qt_keyCodes, .ref qt_bytes, .int qt_size, .int qt_most, .int qt_from, .int qt_kind, .int qt_place, .int qt_value, .long qt_code, .int qt_key, .int qt_fault, .int qt_faultPlace]))] (fun (u9 : va_W) => u9 = [(qt, .inr (8, [.ref qt_keyCodes, .ref qt_bytes, .int qt_size, .int a1, .int 0, .int qt_kind, .int qt_place, .int qt_value, .long qt_code, .int qt_key, .int 0, .int 0]))]) := by
  refine Cv.ofQ (by decide) (Nat.le_of_ble_eq_true rfl) ?_
  intro p e s m below meth c ls A args Q hQ B hw hl
  have C : CallFix p m c cX9_open 2 s args gw "LanternState$Tape" := B.1
  have hl : lv_has ls 2 [(0, .ref qt), (1, .int a1)] := hl
  refine lv_aload_n C.1 C.2.1 dX9_open_0 rfl (lv_at hl 0 rfl) ?_
  refine lv_iload_n C.1 C.2.1 dX9_open_1 rfl (lv_at hl 1 rfl) ?_
  refine x_put (w' := [(qt, .inr (8, [.ref qt_keyCodes, .ref qt_bytes, .int qt_size, .int a1, .int qt_from, .int qt_kind, .int qt_place, .int qt_value, .long qt_code, .int qt_key, .int qt_fault, .int qt_faultPlace]))]) C hw iwX9 tyX9_ok nmX9 8 rfl 0 rfl 3 (by decide) kw92 rfl rfl rfl (Nat.le_of_ble_eq_true rfl) rfl dX9_open_2 (fun H locs hw => ?_)
  refine lv_aload_n C.1 C.2.1 dX9_open_5 rfl (lv_at hl 0 rfl) ?_
  refine lv_iconst (v := 0) C.1 C.2.1 dX9_open_6 (by decide) ?_
  refine x_put (w' := [(qt, .inr (8, [.ref qt_keyCodes, .ref qt_bytes, .int qt_size, .int a1, .int 0, .int qt_kind, .int qt_place, .int qt_value, .long qt_code, .int qt_key, .int qt_fault, .int qt_faultPlace]))]) C hw iwX9 tyX9_ok nmX9 8 rfl 0 rfl 4 (by decide) kw93 rfl rfl rfl (Nat.le_of_ble_eq_true rfl) rfl dX9_open_7 (fun H locs hw => ?_)
  refine lv_aload_n C.1 C.2.1 dX9_open_10 rfl (lv_at hl 0 rfl) ?_
  refine lv_iconst (v := 0) C.1 C.2.1 dX9_open_11 (by decide) ?_
  refine x_put (w' := [(qt, .inr (8, [.ref qt_keyCodes, .ref qt_bytes, .int qt_size, .int a1, .int 0, .int qt_kind, .int qt_place, .int qt_value, .long qt_code, .int qt_key, .int 0, .int qt_faultPlace]))]) C hw iwX9 tyX9_ok nmX9 8 rfl 0 rfl 10 (by decide) kw110 rfl rfl rfl (Nat.le_of_ble_eq_true rfl) rfl dX9_open_12 (fun H locs hw => ?_)
  refine lv_aload_n C.1 C.2.1 dX9_open_15 rfl (lv_at hl 0 rfl) ?_
  refine lv_iconst (v := 0) C.1 C.2.1 dX9_open_16 (by decide) ?_
  refine x_put (w' := [(qt, .inr (8, [.ref qt_keyCodes, .ref qt_bytes, .int qt_size, .int a1, .int 0, .int qt_kind, .int qt_place, .int qt_value, .long qt_code, .int qt_key, .int 0, .int 0]))]) C hw iwX9 tyX9_ok nmX9 8 rfl 0 rfl 11 (by decide) kw113 rfl rfl rfl (Nat.le_of_ble_eq_true rfl) rfl dX9_open_17 (fun H locs hw => ?_)
  exact x_retvQ hQ B hw rfl (Nat.le_of_ble_eq_true rfl) (Nat.le_of_ble_eq_true rfl) dX9_open_20
