/-! the class's table of codes, as Tape() makes it -/
def ksC (k : Nat) : Int32 := (((bytJS.getD 0 []).getD (nI k).toNatClampNeg 0 &&& 255).toUInt32 % 65536).toInt32
def ksF : Nat → Nat × Int64 × (Nat → Int64)
  | 0 => (0, 0, fun _ => 0)
  | k + 1 => match ksF k with
    | (j, w, f) => if ksC k = 32 then (if j < 27 then (j + 1, 0, vp_updL f ((nI j).toNatClampNeg) w) else (j, w, f)) else (j, w * 32 + ((ksC k - 97) + 1).toInt64, f)
theorem ksF_s (k : Nat) : ksF (k + 1) = match ksF k with | (j, w, f) => if ksC k = 32 then (if j < 27 then (j + 1, 0, vp_updL f ((nI j).toNatClampNeg) w) else (j, w, f)) else (j, w * 32 + ((ksC k - 97) + 1).toInt64, f) := rfl
theorem ksF_a {k j : Nat} {w : Int64} {f : Nat → Int64} (h : ksF k = (j, w, f)) (hc : ksC k = 32) (hj : j < 27) : ksF (k + 1) = (j + 1, 0, vp_updL f ((nI j).toNatClampNeg) w) := by
  rw [ksF_s, h]
  dsimp only
  rw [if_pos hc, if_pos hj]
theorem ksF_b {k j : Nat} {w : Int64} {f : Nat → Int64} (h : ksF k = (j, w, f)) (hc : ksC k = 32) (hj : ¬ j < 27) : ksF (k + 1) = (j, w, f) := by
  rw [ksF_s, h]
  dsimp only
  rw [if_pos hc, if_neg hj]
theorem ksF_c {k j : Nat} {w : Int64} {f : Nat → Int64} (h : ksF k = (j, w, f)) (hc : ¬ ksC k = 32) : ksF (k + 1) = (j, w * 32 + ((ksC k - 97) + 1).toInt64, f) := by
  rw [ksF_s, h]
  dsimp only
  rw [if_neg hc]
def kcF : Nat → Int64 := (ksF 151).2.2
theorem dX9_init_0 : decode cX9_init 0 = .ok (.aload_n 0, 1) := by decide +kernel
theorem dX9_init_1 : decode cX9_init 1 = .ok (.invokespecial 3, 3) := by decide +kernel
theorem dX9_init_4 : decode cX9_init 4 = .ok (.aload_n 0, 1) := by decide +kernel
theorem dX9_init_5 : decode cX9_init 5 = .ok (.bipush 27, 2) := by decide +kernel
theorem dX9_init_7 : decode cX9_init 7 = .ok (.newarray .long, 2) := by decide +kernel
theorem dX9_init_9 : decode cX9_init 9 = .ok (.putfield 9, 3) := by decide +kernel
theorem dX9_init_12 : decode cX9_init 12 = .ok (.aload_n 0, 1) := by decide +kernel
theorem dX9_init_13 : decode cX9_init 13 = .ok (.sipush 940, 3) := by decide +kernel
theorem dX9_init_16 : decode cX9_init 16 = .ok (.newarray .byte, 2) := by decide +kernel
theorem dX9_init_18 : decode cX9_init 18 = .ok (.putfield 15, 3) := by decide +kernel
theorem dX9_init_21 : decode cX9_init 21 = .ok (.iconst 0, 1) := by decide +kernel
theorem dX9_init_22 : decode cX9_init 22 = .ok (.istore_n 1, 1) := by decide +kernel
theorem dX9_init_23 : decode cX9_init 23 = .ok (.lconst 0, 1) := by decide +kernel
theorem dX9_init_24 : decode cX9_init 24 = .ok (.lstore_n 2, 1) := by decide +kernel
theorem dX9_init_25 : decode cX9_init 25 = .ok (.iconst 0, 1) := by decide +kernel
theorem dX9_init_26 : decode cX9_init 26 = .ok (.istore 4, 2) := by decide +kernel
theorem dX9_init_28 : decode cX9_init 28 = .ok (.iload 4, 2) := by decide +kernel
theorem dX9_init_30 : decode cX9_init 30 = .ok (.ldc 19, 2) := by decide +kernel
theorem dX9_init_32 : decode cX9_init 32 = .ok (.invokevirtual 21, 3) := by decide +kernel
theorem mwJ0_length_8abf5 : MwV yJ0_length_8abf5 cJ0_length_8abf5 1 (some .int) 0 := ⟨⟨kw42, kw3, by decide +kernel⟩, kw40, kw41⟩
theorem dX9_init_35 : decode cX9_init 35 = .ok (.if_icmp .ge 61, 3) := by decide +kernel
theorem dX9_init_96 : decode cX9_init 96 = .ok (.return_, 1) := by decide +kernel
theorem dX9_init_38 : decode cX9_init 38 = .ok (.ldc 19, 2) := by decide +kernel
theorem dX9_init_40 : decode cX9_init 40 = .ok (.iload 4, 2) := by decide +kernel
theorem dX9_init_42 : decode cX9_init 42 = .ok (.invokevirtual 27, 3) := by decide +kernel
theorem mwJ0_charAt_5068e : MwV yJ0_charAt_5068e cJ0_charAt_5068e 2 (some .char) 1 := ⟨⟨kw52, kw3, by decide +kernel⟩, kw50, kw51⟩
theorem dX9_init_45 : decode cX9_init 45 = .ok (.istore 5, 2) := by decide +kernel
theorem dX9_init_47 : decode cX9_init 47 = .ok (.iload 5, 2) := by decide +kernel
theorem dX9_init_49 : decode cX9_init 49 = .ok (.bipush 32, 2) := by decide +kernel
theorem dX9_init_51 : decode cX9_init 51 = .ok (.if_icmp .eq 21, 3) := by decide +kernel
theorem dX9_init_72 : decode cX9_init 72 = .ok (.iload_n 1, 1) := by decide +kernel
theorem dX9_init_73 : decode cX9_init 73 = .ok (.bipush 27, 2) := by decide +kernel
theorem dX9_init_75 : decode cX9_init 75 = .ok (.if_icmp .ge 15, 3) := by decide +kernel
theorem dX9_init_90 : decode cX9_init 90 = .ok (.iinc 4 1, 3) := by decide +kernel
theorem dX9_init_93 : decode cX9_init 93 = .ok (.goto (-65), 3) := by decide +kernel
theorem dX9_init_78 : decode cX9_init 78 = .ok (.aload_n 0, 1) := by decide +kernel
theorem dX9_init_79 : decode cX9_init 79 = .ok (.getfield 9, 3) := by decide +kernel
theorem dX9_init_82 : decode cX9_init 82 = .ok (.iload_n 1, 1) := by decide +kernel
theorem dX9_init_83 : decode cX9_init 83 = .ok (.lload_n 2, 1) := by decide +kernel
theorem dX9_init_84 : decode cX9_init 84 = .ok (.lastore, 1) := by decide +kernel
theorem dX9_init_85 : decode cX9_init 85 = .ok (.lconst 0, 1) := by decide +kernel
theorem dX9_init_86 : decode cX9_init 86 = .ok (.lstore_n 2, 1) := by decide +kernel
theorem dX9_init_87 : decode cX9_init 87 = .ok (.iinc 1 1, 3) := by decide +kernel
theorem dX9_init_54 : decode cX9_init 54 = .ok (.lload_n 2, 1) := by decide +kernel
theorem dX9_init_55 : decode cX9_init 55 = .ok (.ldc2_w 31, 3) := by decide +kernel
theorem dX9_init_58 : decode cX9_init 58 = .ok (.lmul, 1) := by decide +kernel
theorem dX9_init_59 : decode cX9_init 59 = .ok (.iload 5, 2) := by decide +kernel
theorem dX9_init_61 : decode cX9_init 61 = .ok (.bipush 97, 2) := by decide +kernel
theorem dX9_init_63 : decode cX9_init 63 = .ok (.isub, 1) := by decide +kernel
theorem dX9_init_64 : decode cX9_init 64 = .ok (.iconst 1, 1) := by decide +kernel
theorem dX9_init_65 : decode cX9_init 65 = .ok (.iadd, 1) := by decide +kernel
theorem dX9_init_66 : decode cX9_init 66 = .ok (.i2l, 1) := by decide +kernel
theorem dX9_init_67 : decode cX9_init 67 = .ok (.ladd, 1) := by decide +kernel
theorem dX9_init_68 : decode cX9_init 68 = .ok (.lstore_n 2, 1) := by decide +kernel
theorem dX9_init_69 : decode cX9_init 69 = .ok (.goto 21, 3) := by decide +kernel
-- Tape()
set_option maxHeartbeats 4000000 in
set_option maxRecDepth 100000 in
theorem c_X9_init {l : Launch} {G : Gc} (qt : Nat)  : Cv l yX9_init cX9_init 6 4 2 967 G [.ref qt] [(qt, .inr (8, [.null, .null, .int 0, .int 0, .int 0, .int 0, .int 0, .int 0, .long 0, .int 0, .int 0, .int 0]))] (fun (u9 : va_W) => ∃ (kc : Nat) (bys : Nat), u9 = [(qt, .inr (8, [.ref kc, .ref bys, .int 0, .int 0, .int 0, .int 0, .int 0, .int 0, .long 0, .int 0, .int 0, .int 0])), (kc, eJ G 27 kcF), (bys, eB G 940 (fun _ => 0))]) := by
  refine Cv.of (by decide) (Nat.le_of_ble_eq_true rfl) ?_
  intro p e s m below meth c ls A B hw hl
  have C : CallFix p m c cX9_init 6 s _ gw "LanternState$Tape" := B.1
  have hl : lv_has ls 6 [(0, .ref qt)] := hl
  refine lv_aload_n C.1 C.2.1 dX9_init_0 rfl (lv_at hl 0 rfl) ?_
  refine x_objInit C kw37 hl.1 (Nat.le_of_ble_eq_true rfl) (Nat.le_of_ble_eq_true rfl) dX9_init_1 ?_
  refine lv_aload_n C.1 C.2.1 dX9_init_4 rfl (lv_at hl 0 rfl) ?_
  refine lv_bipush (v := 27) C.1 C.2.1 dX9_init_5 (by decide) ?_
  refine x_newa (a0 := (27, .inr (.inl (fun _ => 0)))) (N := 27) C hw (atype := .long) rfl 3 rfl kw139 (fun _ => rfl) (by decide) (by decide) (Nat.le_of_ble_eq_true rfl) (Nat.le_of_ble_eq_true rfl) (Nat.le_of_ble_eq_true rfl) dX9_init_7 (fun q1 H hw => ?_)
  have hw : Wd G s A [(qt, .inr (8, [.null, .null, .int 0, .int 0, .int 0, .int 0, .int 0, .int 0, .long 0, .int 0, .int 0, .int 0])), (q1, eJ G 27 (fun _ => 0))] H _ := hw
  refine W.widen (k := 1) (n := 27) (Nat.le_of_ble_eq_true rfl) (Nat.le_of_ble_eq_true rfl) ?_
  refine x_putF (w' := [(qt, .inr (8, [.ref q1, .null, .int 0, .int 0, .int 0, .int 0, .int 0, .int 0, .long 0, .int 0, .int 0, .int 0])), (q1, eJ G 27 (fun _ => 0))]) C hw iwX9 tyX9_ok nmX9 B.2.2.2 8 rfl 0 rfl 0 (by decide) kw88 rfl rfl rfl rfl (Nat.le_of_ble_eq_true rfl) rfl dX9_init_9 (fun H locs hw => ?_)
  refine lv_aload_n C.1 C.2.1 dX9_init_12 rfl (lv_at hl 0 rfl) ?_
  refine lv_sipush (v := 940) C.1 C.2.1 dX9_init_13 (by decide) ?_
  refine x_newa (a0 := (940, .inl (fun _ => 0))) (N := 940) C hw (atype := .byte) rfl 0 rfl kw140 (fun _ => rfl) (by decide) (by decide) (Nat.le_of_ble_eq_true rfl) (Nat.le_of_ble_eq_true rfl) (Nat.le_of_ble_eq_true rfl) dX9_init_16 (fun q2 H hw => ?_)
  have hw : Wd G s A [(qt, .inr (8, [.ref q1, .null, .int 0, .int 0, .int 0, .int 0, .int 0, .int 0, .long 0, .int 0, .int 0, .int 0])), (q1, eJ G 27 (fun _ => 0)), (q2, eB G 940 (fun _ => 0))] H _ := hw
  refine W.widen (k := 2) (n := 967) (Nat.le_of_ble_eq_true rfl) (Nat.le_of_ble_eq_true rfl) ?_
  refine x_putF (w' := [(qt, .inr (8, [.ref q1, .ref q2, .int 0, .int 0, .int 0, .int 0, .int 0, .int 0, .long 0, .int 0, .int 0, .int 0])), (q1, eJ G 27 (fun _ => 0)), (q2, eB G 940 (fun _ => 0))]) C hw iwX9 tyX9_ok nmX9 B.2.2.2 8 rfl 0 rfl 1 (by decide) kw89 rfl rfl rfl rfl (Nat.le_of_ble_eq_true rfl) rfl dX9_init_18 (fun H locs hw => ?_)
  refine lv_iconst (v := 0) C.1 C.2.1 dX9_init_21 (by decide) ?_
  refine lv_istore_n (lv' := [(1, .int 0), (0, .ref qt)]) C.1 C.2.1 dX9_init_22 rfl hl (by decide) rfl (fun ls hl => ?_)
  refine lv_lconst (v := 0) C.1 C.2.1 dX9_init_23 (by decide) ?_
  refine lv_lstore_n (lv' := [(2, .long 0), (1, .int 0), (0, .ref qt)]) C.1 C.2.1 dX9_init_24 rfl hl (by decide) rfl (fun ls hl => ?_)
  refine lv_iconst (v := 0) C.1 C.2.1 dX9_init_25 (by decide) ?_
  refine lv_istore (lv' := [(4, .int 0), (2, .long 0), (1, .int 0), (0, .ref qt)]) C.1 C.2.1 dX9_init_26 hl (by decide) rfl (fun ls hl => ?_)
  have loop28 : ∀ (n9 : Nat) (k9 : Nat) (j9 : Nat) (wv : Int64) (fk : Nat → Int64), 151 - k9 < n9 → k9 ≤ 151 → j9 ≤ 27 → ksF k9 = (j9, wv, fk) → ∀ (H : Heap) (locs : List Loc) (ls : Array Slot), Wd G s A [(qt, .inr (8, [.ref q1, .ref q2, .int 0, .int 0, .int 0, .int 0, .int 0, .int 0, .long 0, .int 0, .int 0, .int 0])), (q1, eJ G 27 fk), (q2, eB G 940 (fun _ => 0))] H locs → lv_has ls 6 [(4, .int (nI k9)), (2, .long wv), (1, .int (nI j9)), (0, .ref qt)] → W p l e (rmD 4 2 967) s m [.ref qt].toArray below meth c H locs 2 967 (MQ below (va_Qv (fun (u9 : va_W) => ∃ (kc : Nat) (bys : Nat), u9 = [(qt, .inr (8, [.ref kc, .ref bys, .int 0, .int 0, .int 0, .int 0, .int 0, .int 0, .long 0, .int 0, .int 0, .int 0])), (kc, eJ G 27 kcF), (bys, eB G 940 (fun _ => 0))]) (mB G A) A) [.ref qt].toArray s 2 967 A) (F0 m 28 ls []) := by
    intro n9
    induction n9 with
    | zero => intro k9 j9 wv fk h9; exact absurd h9 (Nat.not_lt_zero _)
    | succ n9 ih =>
      intro k9 j9 wv fk h9 hi9 hj9 hks H locs ls hw hl
      refine lv_iload C.1 C.2.1 dX9_init_28 (lv_at hl 0 rfl) ?_
      refine va_ldcS C.1 C.2.1 C.2.2.2.1 (strk0 hw.1) dX9_init_30 ?_
      refine x_calliVR (As := []) (rest := [.int (nI k9)]) (wr := [(qt, .inr (8, [.ref q1, .ref q2, .int 0, .int 0, .int 0, .int 0, .int 0, .int 0, .long 0, .int 0, .int 0, .int 0])), (q1, eJ G 27 fk), (q2, eB G 940 (fun _ => 0))]) C hw (c_J0_length 0 (by decide)) mwJ0_length_8abf5 kw39 [] [0, 1, 2] rfl rfl rfl rfl (by decide) (vk_recv hw.2.2.2.2.2.1 (by decide) hw.2.2.2.1) rfl hl.1 rfl (Nat.le_of_ble_eq_true rfl) ⟨(Nat.le_of_ble_eq_true rfl), (Nat.le_of_ble_eq_true rfl)⟩ ⟨(Nat.le_of_ble_eq_true rfl), (Nat.le_of_ble_eq_true rfl)⟩ dX9_init_32 (fun r3 u9 H locs hp9 hw => ?_)
      obtain ⟨rfl, rfl⟩ := hp9
      have hw : Wd G s A [(qt, .inr (8, [.ref q1, .ref q2, .int 0, .int 0, .int 0, .int 0, .int 0, .int 0, .long 0, .int 0, .int 0, .int 0])), (q1, eJ G 27 fk), (q2, eB G 940 (fun _ => 0))] H _ := hw
      refine x_topi (z := 151) (by decide) ?_
      refine lv_icmp_ge (tgt := 96) C.1 C.2.1 dX9_init_35 (by decide) (fun c_35 => ?_) (fun c_35 => ?_)
      · skip
        have ek : k9 = 151 := x_geN hi9 c_35 (by decide) (by decide)
        have ef : fk = kcF := by unfold kcF; rw [← ek, hks]
        subst ef
        exact x_retv B hw ⟨q1, q2, rfl⟩ (Nat.le_of_ble_eq_true rfl) (Nat.le_of_ble_eq_true rfl) dX9_init_96
      · skip
        have hk35 : k9 < 151 := x_ltN hi9 c_35 (by decide)
        refine va_ldcS C.1 C.2.1 C.2.2.2.1 (strk0 hw.1) dX9_init_38 ?_
        refine lv_iload C.1 C.2.1 dX9_init_40 (lv_at hl 0 rfl) ?_
        refine x_calliVR (As := [.int (nI k9)]) (rest := []) (wr := [(qt, .inr (8, [.ref q1, .ref q2, .int 0, .int 0, .int 0, .int 0, .int 0, .int 0, .long 0, .int 0, .int 0, .int 0])), (q1, eJ G 27 fk), (q2, eB G 940 (fun _ => 0))]) C hw (c_J0_charAt 0 k9 (by decide) hk35 (by decide)) mwJ0_charAt_5068e kw49 [] [0, 1, 2] rfl rfl rfl rfl (by decide) (vk_recv hw.2.2.2.2.2.1 (by decide) hw.2.2.2.1) rfl hl.1 rfl (Nat.le_of_ble_eq_true rfl) ⟨(Nat.le_of_ble_eq_true rfl), (Nat.le_of_ble_eq_true rfl)⟩ ⟨(Nat.le_of_ble_eq_true rfl), (Nat.le_of_ble_eq_true rfl)⟩ dX9_init_42 (fun r4 u9 H locs hp9 hw => ?_)
        obtain ⟨rfl, rfl⟩ := hp9
        have hw : Wd G s A [(qt, .inr (8, [.ref q1, .ref q2, .int 0, .int 0, .int 0, .int 0, .int 0, .int 0, .long 0, .int 0, .int 0, .int 0])), (q1, eJ G 27 fk), (q2, eB G 940 (fun _ => 0))] H _ := hw
        refine lv_istore (lv' := [(5, .int ((((bytJS.getD 0 []).getD (nI k9).toNatClampNeg 0 &&& 255).toUInt32 % 65536).toInt32)), (4, .int (nI k9)), (2, .long wv), (1, .int (nI j9)), (0, .ref qt)]) C.1 C.2.1 dX9_init_45 hl (by decide) rfl (fun ls hl => ?_)
        refine lv_iload C.1 C.2.1 dX9_init_47 (lv_at hl 0 rfl) ?_
        refine lv_bipush (v := 32) C.1 C.2.1 dX9_init_49 (by decide) ?_
        refine lv_icmp_eq (tgt := 72) C.1 C.2.1 dX9_init_51 (by decide) (fun c_51 => ?_) (fun c_51 => ?_)
        · skip
          refine lv_iload_n C.1 C.2.1 dX9_init_72 rfl (lv_at hl 3 rfl) ?_
          refine lv_bipush (v := 27) C.1 C.2.1 dX9_init_73 (by decide) ?_
          refine lv_icmp_ge (tgt := 90) C.1 C.2.1 dX9_init_75 (by decide) (fun c_75 => ?_) (fun c_75 => ?_)
          · skip
            refine lv_iinc (v := (nI (k9 + 1))) (lv' := [(4, .int (nI (k9 + 1))), (5, .int ((((bytJS.getD 0 []).getD (nI k9).toNatClampNeg 0 &&& 255).toUInt32 % 65536).toInt32)), (2, .long wv), (1, .int (nI j9)), (0, .ref qt)]) C.1 C.2.1 dX9_init_90 hl (k := 1) rfl (nI_1 k9) (by decide) rfl (fun ls hl => ?_)
            refine lv_goto (tgt := 28) C.1 C.2.1 dX9_init_93 (by decide) ?_
            exact ih (k9 + 1) j9 wv fk (by omega) hk35 hj9 (ksF_b hks c_51 (by have e75 : j9 = 27 := x_geN hj9 c_75 (by decide) (by decide); omega)) _ _ _ hw (lv_sub hl [0, 2, 3, 4] rfl)
          · skip
            have hk75 : j9 < 27 := x_ltN hj9 c_75 (by decide)
            refine lv_aload_n C.1 C.2.1 dX9_init_78 rfl (lv_at hl 4 rfl) ?_
            refine x_get C hw iwX9 8 rfl 0 rfl 0 (by decide) kw88 rfl dX9_init_79 ?_
            refine lv_iload_n C.1 C.2.1 dX9_init_82 rfl (lv_at hl 3 rfl) ?_
            refine lv_lload_n C.1 C.2.1 dX9_init_83 rfl (lv_at hl 2 rfl) ?_
            refine x_last (f' := (vp_updL fk ((nI j9).toNatClampNeg) wv)) (w' := [(qt, .inr (8, [.ref q1, .ref q2, .int 0, .int 0, .int 0, .int 0, .int 0, .int 0, .long 0, .int 0, .int 0, .int 0])), (q1, eJ G 27 (vp_updL fk ((nI j9).toNatClampNeg) wv)), (q2, eB G 940 (fun _ => 0))]) C hw 1 rfl (vp_in_nI hk75 (by decide)) rfl rfl dX9_init_84 (fun H locs hw => ?_)
            refine lv_lconst (v := 0) C.1 C.2.1 dX9_init_85 (by decide) ?_
            refine lv_lstore_n (lv' := [(2, .long 0), (5, .int ((((bytJS.getD 0 []).getD (nI k9).toNatClampNeg 0 &&& 255).toUInt32 % 65536).toInt32)), (4, .int (nI k9)), (1, .int (nI j9)), (0, .ref qt)]) C.1 C.2.1 dX9_init_86 rfl hl (by decide) rfl (fun ls hl => ?_)
            refine lv_iinc (v := (nI (j9 + 1))) (lv' := [(1, .int (nI (j9 + 1))), (2, .long 0), (5, .int ((((bytJS.getD 0 []).getD (nI k9).toNatClampNeg 0 &&& 255).toUInt32 % 65536).toInt32)), (4, .int (nI k9)), (0, .ref qt)]) C.1 C.2.1 dX9_init_87 hl (k := 3) rfl (nI_1 j9) (by decide) rfl (fun ls hl => ?_)
            refine lv_iinc (v := (nI (k9 + 1))) (lv' := [(4, .int (nI (k9 + 1))), (1, .int (nI (j9 + 1))), (2, .long 0), (5, .int ((((bytJS.getD 0 []).getD (nI k9).toNatClampNeg 0 &&& 255).toUInt32 % 65536).toInt32)), (0, .ref qt)]) C.1 C.2.1 dX9_init_90 hl (k := 3) rfl (nI_1 k9) (by decide) rfl (fun ls hl => ?_)
            refine lv_goto (tgt := 28) C.1 C.2.1 dX9_init_93 (by decide) ?_
            exact ih (k9 + 1) (j9 + 1) 0 (vp_updL fk ((nI j9).toNatClampNeg) wv) (by omega) hk35 hk75 (ksF_a hks c_51 hk75) _ _ _ hw (lv_sub hl [0, 2, 1, 4] rfl)
        · skip
          refine lv_lload_n C.1 C.2.1 dX9_init_54 rfl (lv_at hl 2 rfl) ?_
          refine lv_ldc2 (v := 32) C.1 C.2.1 C.2.2.2.1 (C.2.2.2.2 _ kw87) dX9_init_55 ?_
          refine lv_lmul C.1 C.2.1 dX9_init_58 ?_
          refine lv_iload C.1 C.2.1 dX9_init_59 (lv_at hl 0 rfl) ?_
          refine lv_bipush (v := 97) C.1 C.2.1 dX9_init_61 (by decide) ?_
          refine lv_isub C.1 C.2.1 dX9_init_63 ?_
          refine lv_iconst (v := 1) C.1 C.2.1 dX9_init_64 (by decide) ?_
          refine lv_iadd C.1 C.2.1 dX9_init_65 ?_
          refine lv_i2l (v := (((((((bytJS.getD 0 []).getD (nI k9).toNatClampNeg 0 &&& 255).toUInt32 % 65536).toInt32) - 97) + 1).toInt64)) C.1 C.2.1 dX9_init_66 rfl ?_
          refine lv_ladd C.1 C.2.1 dX9_init_67 ?_
          refine lv_lstore_n (lv' := [(2, .long ((wv * 32) + (((((((bytJS.getD 0 []).getD (nI k9).toNatClampNeg 0 &&& 255).toUInt32 % 65536).toInt32) - 97) + 1).toInt64))), (5, .int ((((bytJS.getD 0 []).getD (nI k9).toNatClampNeg 0 &&& 255).toUInt32 % 65536).toInt32)), (4, .int (nI k9)), (1, .int (nI j9)), (0, .ref qt)]) C.1 C.2.1 dX9_init_68 rfl hl (by decide) rfl (fun ls hl => ?_)
          refine lv_goto (tgt := 90) C.1 C.2.1 dX9_init_69 (by decide) ?_
          refine lv_iinc (v := (nI (k9 + 1))) (lv' := [(4, .int (nI (k9 + 1))), (2, .long ((wv * 32) + (((((((bytJS.getD 0 []).getD (nI k9).toNatClampNeg 0 &&& 255).toUInt32 % 65536).toInt32) - 97) + 1).toInt64))), (5, .int ((((bytJS.getD 0 []).getD (nI k9).toNatClampNeg 0 &&& 255).toUInt32 % 65536).toInt32)), (1, .int (nI j9)), (0, .ref qt)]) C.1 C.2.1 dX9_init_90 hl (k := 2) rfl (nI_1 k9) (by decide) rfl (fun ls hl => ?_)
          refine lv_goto (tgt := 28) C.1 C.2.1 dX9_init_93 (by decide) ?_
          exact ih (k9 + 1) j9 ((wv * 32) + (((((((bytJS.getD 0 []).getD (nI k9).toNatClampNeg 0 &&& 255).toUInt32 % 65536).toInt32) - 97) + 1).toInt64)) fk (by omega) hk35 hj9 (ksF_c hks c_51) _ _ _ hw (lv_sub hl [0, 1, 3, 4] rfl)
  exact loop28 _ 0 0 0 (fun _ => 0) (Nat.lt_succ_self _) (Nat.zero_le _) (Nat.zero_le _) rfl _ _ _ hw (lv_sub hl [0, 1, 2, 3] rfl)
