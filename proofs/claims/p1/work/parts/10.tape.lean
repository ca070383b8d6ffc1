theorem dX9_open_0 : decode cX9_open 0 = .ok (.aload_n 0, 1) := by decide +kernel
theorem dX9_open_1 : decode cX9_open 1 = .ok (.iload_n 1, 1) := by decide +kernel
theorem dX9_open_2 : decode cX9_open 2 = .ok (.putfield 47, 3) := by decide +kernel
theorem dX9_open_5 : decode cX9_open 5 = .ok (.aload_n 0, 1) := by decide +kernel
theorem dX9_open_6 : decode cX9_open 6 = .ok (.iconst 0, 1) := by decide +kernel
theorem dX9_open_7 : decode cX9_open 7 = .ok (.putfield 50, 3) := by decide +kernel
theorem dX9_open_10 : decode cX9_open 10 = .ok (.aload_n 0, 1) := by decide +kernel
theorem dX9_open_11 : decode cX9_open 11 = .ok (.iconst 0, 1) := by decide +kernel
theorem dX9_open_12 : decode cX9_open 12 = .ok (.putfield 53, 3) := by decide +kernel
theorem dX9_open_15 : decode cX9_open 15 = .ok (.aload_n 0, 1) := by decide +kernel
theorem dX9_open_16 : decode cX9_open 16 = .ok (.iconst 0, 1) := by decide +kernel
theorem dX9_open_17 : decode cX9_open 17 = .ok (.putfield 56, 3) := by decide +kernel
theorem dX9_open_20 : decode cX9_open 20 = .ok (.return_, 1) := by decide +kernel
-- Tape.open
set_option maxHeartbeats 4000000 in
set_option maxRecDepth 100000 in
theorem c_X9_open {l : Launch} {G : Gc} (qt : Nat) (m9 : Int32) (kc : Nat) (bys : Nat) (tsz : Int32) (tmo : Int32) (tfr : Int32) (tki : Int32) (tpl : Int32) (tva : Int32) (tco : Int64) (tke : Int32) (tfa : Int32) (tfp : Int32)  : Cv l yX9_open cX9_open 2 0 0 0 G [.ref qt, .int m9] [(qt, .inr (8, [.ref kc, .ref bys, .int tsz, .int tmo, .int tfr, .int tki, .int tpl, .int tva, .long tco, .int tke, .int tfa, .int tfp]))] (fun (u9 : va_W) => u9 = [(qt, .inr (8, [.ref kc, .ref bys, .int tsz, .int m9, .int 0, .int tki, .int tpl, .int tva, .long tco, .int tke, .int 0, .int 0]))]) := by
  refine Cv.of (by decide) (Nat.le_of_ble_eq_true rfl) ?_
  intro p e s m below meth c ls A B hw hl
  have C : CallFix p m c cX9_open 2 s _ gw "LanternState$Tape" := B.1
  have hl : lv_has ls 2 [(0, .ref qt), (1, .int m9)] := hl
  refine lv_aload_n C.1 C.2.1 dX9_open_0 rfl (lv_at hl 0 rfl) ?_
  refine lv_iload_n C.1 C.2.1 dX9_open_1 rfl (lv_at hl 1 rfl) ?_
  refine x_put (w' := [(qt, .inr (8, [.ref kc, .ref bys, .int tsz, .int m9, .int tfr, .int tki, .int tpl, .int tva, .long tco, .int tke, .int tfa, .int tfp]))]) C hw iwX9 tyX9_ok nmX9 8 rfl 0 rfl 3 (by decide) kw92 rfl rfl rfl (Nat.le_of_ble_eq_true rfl) rfl dX9_open_2 (fun H locs hw => ?_)
  refine lv_aload_n C.1 C.2.1 dX9_open_5 rfl (lv_at hl 0 rfl) ?_
  refine lv_iconst (v := 0) C.1 C.2.1 dX9_open_6 (by decide) ?_
  refine x_put (w' := [(qt, .inr (8, [.ref kc, .ref bys, .int tsz, .int m9, .int 0, .int tki, .int tpl, .int tva, .long tco, .int tke, .int tfa, .int tfp]))]) C hw iwX9 tyX9_ok nmX9 8 rfl 0 rfl 4 (by decide) kw93 rfl rfl rfl (Nat.le_of_ble_eq_true rfl) rfl dX9_open_7 (fun H locs hw => ?_)
  refine lv_aload_n C.1 C.2.1 dX9_open_10 rfl (lv_at hl 0 rfl) ?_
  refine lv_iconst (v := 0) C.1 C.2.1 dX9_open_11 (by decide) ?_
  refine x_put (w' := [(qt, .inr (8, [.ref kc, .ref bys, .int tsz, .int m9, .int 0, .int tki, .int tpl, .int tva, .long tco, .int tke, .int 0, .int tfp]))]) C hw iwX9 tyX9_ok nmX9 8 rfl 0 rfl 10 (by decide) kw110 rfl rfl rfl (Nat.le_of_ble_eq_true rfl) rfl dX9_open_12 (fun H locs hw => ?_)
  refine lv_aload_n C.1 C.2.1 dX9_open_15 rfl (lv_at hl 0 rfl) ?_
  refine lv_iconst (v := 0) C.1 C.2.1 dX9_open_16 (by decide) ?_
  refine x_put (w' := [(qt, .inr (8, [.ref kc, .ref bys, .int tsz, .int m9, .int 0, .int tki, .int tpl, .int tva, .long tco, .int tke, .int 0, .int 0]))]) C hw iwX9 tyX9_ok nmX9 8 rfl 0 rfl 11 (by decide) kw113 rfl rfl rfl (Nat.le_of_ble_eq_true rfl) rfl dX9_open_17 (fun H locs hw => ?_)
  exact x_retv B hw rfl (Nat.le_of_ble_eq_true rfl) (Nat.le_of_ble_eq_true rfl) dX9_open_20
theorem dX9_at_0 : decode cX9_at 0 = .ok (.iload_n 1, 1) := by decide +kernel
theorem dX9_at_1 : decode cX9_at 1 = .ok (.ifCond .lt 31, 3) := by decide +kernel
theorem dX9_at_4 : decode cX9_at 4 = .ok (.iload_n 1, 1) := by decide +kernel
theorem dX9_at_5 : decode cX9_at 5 = .ok (.aload_n 0, 1) := by decide +kernel
theorem dX9_at_6 : decode cX9_at 6 = .ok (.getfield 33, 3) := by decide +kernel
theorem dX9_at_9 : decode cX9_at 9 = .ok (.if_icmp .ge 23, 3) := by decide +kernel
theorem dX9_at_32 : decode cX9_at 32 = .ok (.iconst (-1), 1) := by decide +kernel
theorem dX9_at_33 : decode cX9_at 33 = .ok (.ireturn, 1) := by decide +kernel
-- Tape.at(0) of an empty tape
set_option maxHeartbeats 4000000 in
set_option maxRecDepth 100000 in
theorem c_X9_at0 {l : Launch} {G : Gc} (qt : Nat) (kc : Nat) (bys : Nat) (tmo : Int32) (tki : Int32) (tpl : Int32) (tva : Int32) (tco : Int64) (tke : Int32) (tfa : Int32) (tfp : Int32)  : Ci l yX9_at cX9_at 2 (some .int) 0 0 0 G [.ref qt, .int 0] [(qt, .inr (8, [.ref kc, .ref bys, .int 0, .int tmo, .int 0, .int tki, .int tpl, .int tva, .long tco, .int tke, .int tfa, .int tfp]))] (fun (r9 : Int32) (u9 : va_W) => r9 = (-1) ∧ u9 = [(qt, .inr (8, [.ref kc, .ref bys, .int 0, .int tmo, .int 0, .int tki, .int tpl, .int tva, .long tco, .int tke, .int tfa, .int tfp]))]) := by
  refine Ci.of (by decide) (Nat.le_of_ble_eq_true rfl) ?_
  intro p e s m below meth c ls A B hw hl
  have C : CallFix p m c cX9_at 2 s _ gw "LanternState$Tape" := B.1
  have hl : lv_has ls 2 [(0, .ref qt), (1, .int 0)] := hl
  refine lv_iload_n C.1 C.2.1 dX9_at_0 rfl (lv_at hl 1 rfl) ?_
  refine lv_if_lt (tgt := 32) C.1 C.2.1 dX9_at_1 (by decide) (fun h9 => absurd h9 (by decide)) (fun _ => ?_)
  refine lv_iload_n C.1 C.2.1 dX9_at_4 rfl (lv_at hl 1 rfl) ?_
  refine lv_aload_n C.1 C.2.1 dX9_at_5 rfl (lv_at hl 0 rfl) ?_
  refine x_get C hw iwX9 8 rfl 0 rfl 2 (by decide) kw91 rfl dX9_at_6 ?_
  refine lv_icmp_ge (tgt := 32) C.1 C.2.1 dX9_at_9 (by decide) (fun _ => ?_) (fun h9 => absurd (by decide) h9)
  refine lv_iconst (v := (-1)) C.1 C.2.1 dX9_at_32 (by decide) ?_
  exact x_reti B hw ⟨rfl, rfl⟩ (Nat.le_of_ble_eq_true rfl) (Nat.le_of_ble_eq_true rfl) dX9_at_33
theorem dX9_next_0 : decode cX9_next 0 = .ok (.aload_n 0, 1) := by decide +kernel
theorem dX9_next_1 : decode cX9_next 1 = .ok (.aload_n 0, 1) := by decide +kernel
theorem dX9_next_2 : decode cX9_next 2 = .ok (.getfield 50, 3) := by decide +kernel
theorem dX9_next_5 : decode cX9_next 5 = .ok (.invokevirtual 37, 3) := by decide +kernel
theorem mwX9_at : MwV yX9_at cX9_at 2 (some .int) 1 := ⟨⟨kw533, kw2, by decide +kernel⟩, kw532, kS1⟩
theorem dX9_next_8 : decode cX9_next 8 = .ok (.istore_n 1, 1) := by decide +kernel
theorem dX9_next_9 : decode cX9_next 9 = .ok (.aload_n 0, 1) := by decide +kernel
theorem dX9_next_10 : decode cX9_next 10 = .ok (.getfield 50, 3) := by decide +kernel
theorem dX9_next_13 : decode cX9_next 13 = .ok (.aload_n 0, 1) := by decide +kernel
theorem dX9_next_14 : decode cX9_next 14 = .ok (.getfield 33, 3) := by decide +kernel
theorem dX9_next_17 : decode cX9_next 17 = .ok (.if_icmp .ge 37, 3) := by decide +kernel
theorem dX9_next_54 : decode cX9_next 54 = .ok (.aload_n 0, 1) := by decide +kernel
theorem dX9_next_55 : decode cX9_next 55 = .ok (.aload_n 0, 1) := by decide +kernel
theorem dX9_next_56 : decode cX9_next 56 = .ok (.getfield 50, 3) := by decide +kernel
theorem dX9_next_59 : decode cX9_next 59 = .ok (.putfield 59, 3) := by decide +kernel
theorem dX9_next_62 : decode cX9_next 62 = .ok (.aload_n 0, 1) := by decide +kernel
theorem dX9_next_63 : decode cX9_next 63 = .ok (.iconst 0, 1) := by decide +kernel
theorem dX9_next_64 : decode cX9_next 64 = .ok (.putfield 62, 3) := by decide +kernel
theorem dX9_next_67 : decode cX9_next 67 = .ok (.aload_n 0, 1) := by decide +kernel
theorem dX9_next_68 : decode cX9_next 68 = .ok (.lconst 0, 1) := by decide +kernel
theorem dX9_next_69 : decode cX9_next 69 = .ok (.putfield 65, 3) := by decide +kernel
theorem dX9_next_72 : decode cX9_next 72 = .ok (.aload_n 0, 1) := by decide +kernel
theorem dX9_next_73 : decode cX9_next 73 = .ok (.iconst (-1), 1) := by decide +kernel
theorem dX9_next_74 : decode cX9_next 74 = .ok (.putfield 69, 3) := by decide +kernel
theorem dX9_next_77 : decode cX9_next 77 = .ok (.aload_n 0, 1) := by decide +kernel
theorem dX9_next_78 : decode cX9_next 78 = .ok (.getfield 33, 3) := by decide +kernel
theorem dX9_next_81 : decode cX9_next 81 = .ok (.aload_n 0, 1) := by decide +kernel
theorem dX9_next_82 : decode cX9_next 82 = .ok (.getfield 47, 3) := by decide +kernel
theorem dX9_next_85 : decode cX9_next 85 = .ok (.if_icmp .le 30, 3) := by decide +kernel
theorem dX9_next_115 : decode cX9_next 115 = .ok (.aload_n 0, 1) := by decide +kernel
theorem dX9_next_116 : decode cX9_next 116 = .ok (.getfield 50, 3) := by decide +kernel
theorem dX9_next_119 : decode cX9_next 119 = .ok (.aload_n 0, 1) := by decide +kernel
theorem dX9_next_120 : decode cX9_next 120 = .ok (.getfield 33, 3) := by decide +kernel
theorem dX9_next_123 : decode cX9_next 123 = .ok (.if_icmp .lt 11, 3) := by decide +kernel
theorem dX9_next_126 : decode cX9_next 126 = .ok (.aload_n 0, 1) := by decide +kernel
theorem dX9_next_127 : decode cX9_next 127 = .ok (.iconst 0, 1) := by decide +kernel
theorem dX9_next_128 : decode cX9_next 128 = .ok (.putfield 72, 3) := by decide +kernel
theorem dX9_next_131 : decode cX9_next 131 = .ok (.goto 82, 3) := by decide +kernel
theorem dX9_next_213 : decode cX9_next 213 = .ok (.return_, 1) := by decide +kernel
-- Tape.next on an empty tape
set_option maxHeartbeats 4000000 in
set_option maxRecDepth 100000 in
theorem c_X9_next0 {l : Launch} {G : Gc} (qt : Nat) (kc : Nat) (bys : Nat) (tmo : Int32) (tki : Int32) (tpl : Int32) (tva : Int32) (tco : Int64) (tke : Int32) (tfa : Int32) (tfp : Int32) (hm : (0 : Int32) ≤ tmo) : Cv l yX9_next cX9_next 2 1 0 0 G [.ref qt] [(qt, .inr (8, [.ref kc, .ref bys, .int 0, .int tmo, .int 0, .int tki, .int tpl, .int tva, .long tco, .int tke, .int tfa, .int tfp]))] (fun (u9 : va_W) => u9 = [(qt, .inr (8, [.ref kc, .ref bys, .int 0, .int tmo, .int 0, .int 0, .int 0, .int 0, .long 0, .int (-1), .int tfa, .int tfp]))]) := by
  refine Cv.of (by decide) (Nat.le_of_ble_eq_true rfl) ?_
  intro p e s m below meth c ls A B hw hl
  have C : CallFix p m c cX9_next 2 s _ gw "LanternState$Tape" := B.1
  have hl : lv_has ls 2 [(0, .ref qt)] := hl
  refine lv_aload_n C.1 C.2.1 dX9_next_0 rfl (lv_at hl 0 rfl) ?_
  refine lv_aload_n C.1 C.2.1 dX9_next_1 rfl (lv_at hl 0 rfl) ?_
  refine x_get C hw iwX9 8 rfl 0 rfl 4 (by decide) kw93 rfl dX9_next_2 ?_
  refine x_calliV (As := [.int 0]) (rest := []) (wr := []) C hw (c_X9_at0 qt kc bys tmo tki tpl tva tco tke tfa tfp) mwX9_at kw530 [0] [] rfl rfl rfl rfl (by decide) 0 rfl rfl rfl rfl hl.1 rfl (Nat.le_of_ble_eq_true rfl) ⟨(Nat.le_of_ble_eq_true rfl), (Nat.le_of_ble_eq_true rfl)⟩ ⟨(Nat.le_of_ble_eq_true rfl), (Nat.le_of_ble_eq_true rfl)⟩ dX9_next_5 (fun r1 u9 H locs hp9 hw => ?_)
  obtain ⟨rfl, rfl⟩ := hp9
  have hw : Wd G s A [(qt, .inr (8, [.ref kc, .ref bys, .int 0, .int tmo, .int 0, .int tki, .int tpl, .int tva, .long tco, .int tke, .int tfa, .int tfp]))] H _ := hw
  refine lv_istore_n (lv' := [(1, .int (-1)), (0, .ref qt)]) C.1 C.2.1 dX9_next_8 rfl hl (by decide) rfl (fun ls hl => ?_)
  refine lv_aload_n C.1 C.2.1 dX9_next_9 rfl (lv_at hl 1 rfl) ?_
  refine x_get C hw iwX9 8 rfl 0 rfl 4 (by decide) kw93 rfl dX9_next_10 ?_
  refine lv_aload_n C.1 C.2.1 dX9_next_13 rfl (lv_at hl 1 rfl) ?_
  refine x_get C hw iwX9 8 rfl 0 rfl 2 (by decide) kw91 rfl dX9_next_14 ?_
  refine lv_icmp_ge (tgt := 54) C.1 C.2.1 dX9_next_17 (by decide) (fun _ => ?_) (fun h9 => absurd (by decide) h9)
  refine lv_aload_n C.1 C.2.1 dX9_next_54 rfl (lv_at hl 1 rfl) ?_
  refine lv_aload_n C.1 C.2.1 dX9_next_55 rfl (lv_at hl 1 rfl) ?_
  refine x_get C hw iwX9 8 rfl 0 rfl 4 (by decide) kw93 rfl dX9_next_56 ?_
  refine x_put (w' := [(qt, .inr (8, [.ref kc, .ref bys, .int 0, .int tmo, .int 0, .int tki, .int 0, .int tva, .long tco, .int tke, .int tfa, .int tfp]))]) C hw iwX9 tyX9_ok nmX9 8 rfl 0 rfl 6 (by decide) kw98 rfl rfl rfl (Nat.le_of_ble_eq_true rfl) rfl dX9_next_59 (fun H locs hw => ?_)
  refine lv_aload_n C.1 C.2.1 dX9_next_62 rfl (lv_at hl 1 rfl) ?_
  refine lv_iconst (v := 0) C.1 C.2.1 dX9_next_63 (by decide) ?_
  refine x_put (w' := [(qt, .inr (8, [.ref kc, .ref bys, .int 0, .int tmo, .int 0, .int tki, .int 0, .int 0, .long tco, .int tke, .int tfa, .int tfp]))]) C hw iwX9 tyX9_ok nmX9 8 rfl 0 rfl 7 (by decide) kw101 rfl rfl rfl (Nat.le_of_ble_eq_true rfl) rfl dX9_next_64 (fun H locs hw => ?_)
  refine lv_aload_n C.1 C.2.1 dX9_next_67 rfl (lv_at hl 1 rfl) ?_
  refine lv_lconst (v := 0) C.1 C.2.1 dX9_next_68 (by decide) ?_
  refine x_put (w' := [(qt, .inr (8, [.ref kc, .ref bys, .int 0, .int tmo, .int 0, .int tki, .int 0, .int 0, .long 0, .int tke, .int tfa, .int tfp]))]) C hw iwX9 tyX9_ok nmX9 8 rfl 0 rfl 8 (by decide) kw105 rfl rfl rfl (Nat.le_of_ble_eq_true rfl) rfl dX9_next_69 (fun H locs hw => ?_)
  refine lv_aload_n C.1 C.2.1 dX9_next_72 rfl (lv_at hl 1 rfl) ?_
  refine lv_iconst (v := (-1)) C.1 C.2.1 dX9_next_73 (by decide) ?_
  refine x_put (w' := [(qt, .inr (8, [.ref kc, .ref bys, .int 0, .int tmo, .int 0, .int tki, .int 0, .int 0, .long 0, .int (-1), .int tfa, .int tfp]))]) C hw iwX9 tyX9_ok nmX9 8 rfl 0 rfl 9 (by decide) kw109 rfl rfl rfl (Nat.le_of_ble_eq_true rfl) rfl dX9_next_74 (fun H locs hw => ?_)
  refine lv_aload_n C.1 C.2.1 dX9_next_77 rfl (lv_at hl 1 rfl) ?_
  refine x_get C hw iwX9 8 rfl 0 rfl 2 (by decide) kw91 rfl dX9_next_78 ?_
  refine lv_aload_n C.1 C.2.1 dX9_next_81 rfl (lv_at hl 1 rfl) ?_
  refine x_get C hw iwX9 8 rfl 0 rfl 3 (by decide) kw92 rfl dX9_next_82 ?_
  refine lv_icmp_le (tgt := 115) C.1 C.2.1 dX9_next_85 (by decide) (fun _ => ?_) (fun h9 => absurd hm h9)
  refine lv_aload_n C.1 C.2.1 dX9_next_115 rfl (lv_at hl 1 rfl) ?_
  refine x_get C hw iwX9 8 rfl 0 rfl 4 (by decide) kw93 rfl dX9_next_116 ?_
  refine lv_aload_n C.1 C.2.1 dX9_next_119 rfl (lv_at hl 1 rfl) ?_
  refine x_get C hw iwX9 8 rfl 0 rfl 2 (by decide) kw91 rfl dX9_next_120 ?_
  refine lv_icmp_lt (tgt := 134) C.1 C.2.1 dX9_next_123 (by decide) (fun h9 => absurd h9 (by decide)) (fun _ => ?_)
  refine lv_aload_n C.1 C.2.1 dX9_next_126 rfl (lv_at hl 1 rfl) ?_
  refine lv_iconst (v := 0) C.1 C.2.1 dX9_next_127 (by decide) ?_
  refine x_put (w' := [(qt, .inr (8, [.ref kc, .ref bys, .int 0, .int tmo, .int 0, .int 0, .int 0, .int 0, .long 0, .int (-1), .int tfa, .int tfp]))]) C hw iwX9 tyX9_ok nmX9 8 rfl 0 rfl 5 (by decide) kw97 rfl rfl rfl (Nat.le_of_ble_eq_true rfl) rfl dX9_next_128 (fun H locs hw => ?_)
  refine lv_goto (tgt := 213) C.1 C.2.1 dX9_next_131 (by decide) ?_
  exact x_retv B hw rfl (Nat.le_of_ble_eq_true rfl) (Nat.le_of_ble_eq_true rfl) dX9_next_213
theorem dX9_fail_0 : decode cX9_fail 0 = .ok (.aload_n 0, 1) := by decide +kernel
theorem dX9_fail_1 : decode cX9_fail 1 = .ok (.getfield 53, 3) := by decide +kernel
theorem dX9_fail_4 : decode cX9_fail 4 = .ok (.ifCond .ne 16, 3) := by decide +kernel
theorem dX9_fail_7 : decode cX9_fail 7 = .ok (.aload_n 0, 1) := by decide +kernel
theorem dX9_fail_8 : decode cX9_fail 8 = .ok (.iload_n 1, 1) := by decide +kernel
theorem dX9_fail_9 : decode cX9_fail 9 = .ok (.putfield 53, 3) := by decide +kernel
theorem dX9_fail_12 : decode cX9_fail 12 = .ok (.aload_n 0, 1) := by decide +kernel
theorem dX9_fail_13 : decode cX9_fail 13 = .ok (.aload_n 0, 1) := by decide +kernel
theorem dX9_fail_14 : decode cX9_fail 14 = .ok (.getfield 59, 3) := by decide +kernel
theorem dX9_fail_17 : decode cX9_fail 17 = .ok (.putfield 56, 3) := by decide +kernel
theorem dX9_fail_20 : decode cX9_fail 20 = .ok (.iconst 0, 1) := by decide +kernel
theorem dX9_fail_21 : decode cX9_fail 21 = .ok (.ireturn, 1) := by decide +kernel
-- Tape.fail, the first
set_option maxHeartbeats 4000000 in
set_option maxRecDepth 100000 in
theorem c_X9_fail {l : Launch} {G : Gc} (qt : Nat) (f9 : Int32) (kc : Nat) (bys : Nat) (tsz : Int32) (tmo : Int32) (tfr : Int32) (tki : Int32) (tpl : Int32) (tva : Int32) (tco : Int64) (tke : Int32) (tfp : Int32)  : Ci l yX9_fail cX9_fail 2 (some .boolean) 0 0 0 G [.ref qt, .int f9] [(qt, .inr (8, [.ref kc, .ref bys, .int tsz, .int tmo, .int tfr, .int tki, .int tpl, .int tva, .long tco, .int tke, .int 0, .int tfp]))] (fun (r9 : Int32) (u9 : va_W) => r9 = 0 ∧ u9 = [(qt, .inr (8, [.ref kc, .ref bys, .int tsz, .int tmo, .int tfr, .int tki, .int tpl, .int tva, .long tco, .int tke, .int f9, .int tpl]))]) := by
  refine Ci.of (by decide) (Nat.le_of_ble_eq_true rfl) ?_
  intro p e s m below meth c ls A B hw hl
  have C : CallFix p m c cX9_fail 2 s _ gw "LanternState$Tape" := B.1
  have hl : lv_has ls 2 [(0, .ref qt), (1, .int f9)] := hl
  refine lv_aload_n C.1 C.2.1 dX9_fail_0 rfl (lv_at hl 0 rfl) ?_
  refine x_get C hw iwX9 8 rfl 0 rfl 10 (by decide) kw110 rfl dX9_fail_1 ?_
  refine lv_if_ne (tgt := 20) C.1 C.2.1 dX9_fail_4 (by decide) (fun h9 => absurd (by decide) h9) (fun _ => ?_)
  refine lv_aload_n C.1 C.2.1 dX9_fail_7 rfl (lv_at hl 0 rfl) ?_
  refine lv_iload_n C.1 C.2.1 dX9_fail_8 rfl (lv_at hl 1 rfl) ?_
  refine x_put (w' := [(qt, .inr (8, [.ref kc, .ref bys, .int tsz, .int tmo, .int tfr, .int tki, .int tpl, .int tva, .long tco, .int tke, .int f9, .int tfp]))]) C hw iwX9 tyX9_ok nmX9 8 rfl 0 rfl 10 (by decide) kw110 rfl rfl rfl (Nat.le_of_ble_eq_true rfl) rfl dX9_fail_9 (fun H locs hw => ?_)
  refine lv_aload_n C.1 C.2.1 dX9_fail_12 rfl (lv_at hl 0 rfl) ?_
  refine lv_aload_n C.1 C.2.1 dX9_fail_13 rfl (lv_at hl 0 rfl) ?_
  refine x_get C hw iwX9 8 rfl 0 rfl 6 (by decide) kw98 rfl dX9_fail_14 ?_
  refine x_put (w' := [(qt, .inr (8, [.ref kc, .ref bys, .int tsz, .int tmo, .int tfr, .int tki, .int tpl, .int tva, .long tco, .int tke, .int f9, .int tpl]))]) C hw iwX9 tyX9_ok nmX9 8 rfl 0 rfl 11 (by decide) kw113 rfl rfl rfl (Nat.le_of_ble_eq_true rfl) rfl dX9_fail_17 (fun H locs hw => ?_)
  refine lv_iconst (v := 0) C.1 C.2.1 dX9_fail_20 (by decide) ?_
  exact x_retz B hw rfl ⟨rfl, rfl⟩ (Nat.le_of_ble_eq_true rfl) (Nat.le_of_ble_eq_true rfl) dX9_fail_21
theorem dX9_isSign_0 : decode cX9_isSign 0 = .ok (.aload_n 0, 1) := by decide +kernel
theorem dX9_isSign_1 : decode cX9_isSign 1 = .ok (.getfield 72, 3) := by decide +kernel
theorem dX9_isSign_4 : decode cX9_isSign 4 = .ok (.iconst 5, 1) := by decide +kernel
theorem dX9_isSign_5 : decode cX9_isSign 5 = .ok (.if_icmp .ne 15, 3) := by decide +kernel
theorem dX9_isSign_20 : decode cX9_isSign 20 = .ok (.iconst 0, 1) := by decide +kernel
theorem dX9_isSign_21 : decode cX9_isSign 21 = .ok (.ireturn, 1) := by decide +kernel
-- Tape.isSign at the end
set_option maxHeartbeats 4000000 in
set_option maxRecDepth 100000 in
theorem c_X9_isSign0 {l : Launch} {G : Gc} (qt : Nat) (f9 : Int32) (kc : Nat) (bys : Nat) (tsz : Int32) (tmo : Int32) (tfr : Int32) (tpl : Int32) (tva : Int32) (tco : Int64) (tke : Int32) (tfa : Int32) (tfp : Int32)  : Ci l yX9_isSign cX9_isSign 2 (some .boolean) 0 0 0 G [.ref qt, .int f9] [(qt, .inr (8, [.ref kc, .ref bys, .int tsz, .int tmo, .int tfr, .int 0, .int tpl, .int tva, .long tco, .int tke, .int tfa, .int tfp]))] (fun (r9 : Int32) (u9 : va_W) => r9 = 0 ∧ u9 = [(qt, .inr (8, [.ref kc, .ref bys, .int tsz, .int tmo, .int tfr, .int 0, .int tpl, .int tva, .long tco, .int tke, .int tfa, .int tfp]))]) := by
  refine Ci.of (by decide) (Nat.le_of_ble_eq_true rfl) ?_
  intro p e s m below meth c ls A B hw hl
  have C : CallFix p m c cX9_isSign 2 s _ gw "LanternState$Tape" := B.1
  have hl : lv_has ls 2 [(0, .ref qt), (1, .int f9)] := hl
  refine lv_aload_n C.1 C.2.1 dX9_isSign_0 rfl (lv_at hl 0 rfl) ?_
  refine x_get C hw iwX9 8 rfl 0 rfl 5 (by decide) kw97 rfl dX9_isSign_1 ?_
  refine lv_iconst (v := 5) C.1 C.2.1 dX9_isSign_4 (by decide) ?_
  refine lv_icmp_ne (tgt := 20) C.1 C.2.1 dX9_isSign_5 (by decide) (fun _ => ?_) (fun h9 => absurd h9 (by decide))
  refine lv_iconst (v := 0) C.1 C.2.1 dX9_isSign_20 (by decide) ?_
  exact x_retz B hw rfl ⟨rfl, rfl⟩ (Nat.le_of_ble_eq_true rfl) (Nat.le_of_ble_eq_true rfl) dX9_isSign_21
theorem dX9_pictureFrom_0 : decode cX9_pictureFrom 0 = .ok (.aload_n 0, 1) := by decide +kernel
theorem dX9_pictureFrom_1 : decode cX9_pictureFrom 1 = .ok (.getfield 33, 3) := by decide +kernel
theorem dX9_pictureFrom_4 : decode cX9_pictureFrom 4 = .ok (.bipush 8, 2) := by decide +kernel
theorem dX9_pictureFrom_6 : decode cX9_pictureFrom 6 = .ok (.if_icmp .eq 5, 3) := by decide +kernel
theorem dX9_pictureFrom_9 : decode cX9_pictureFrom 9 = .ok (.iconst (-1), 1) := by decide +kernel
theorem dX9_pictureFrom_10 : decode cX9_pictureFrom 10 = .ok (.ireturn, 1) := by decide +kernel
-- Tape.pictureFrom of an empty tape
set_option maxHeartbeats 4000000 in
set_option maxRecDepth 100000 in
theorem c_X9_pic0 {l : Launch} {G : Gc} (qt : Nat) (f9 : Int32) (kc : Nat) (bys : Nat) (tmo : Int32) (tfr : Int32) (tki : Int32) (tpl : Int32) (tva : Int32) (tco : Int64) (tke : Int32) (tfa : Int32) (tfp : Int32)  : Ci l yX9_pictureFrom cX9_pictureFrom 5 (some .int) 0 0 0 G [.ref qt, .int f9] [(qt, .inr (8, [.ref kc, .ref bys, .int 0, .int tmo, .int tfr, .int tki, .int tpl, .int tva, .long tco, .int tke, .int tfa, .int tfp]))] (fun (r9 : Int32) (u9 : va_W) => r9 = (-1) ∧ u9 = [(qt, .inr (8, [.ref kc, .ref bys, .int 0, .int tmo, .int tfr, .int tki, .int tpl, .int tva, .long tco, .int tke, .int tfa, .int tfp]))]) := by
  refine Ci.of (by decide) (Nat.le_of_ble_eq_true rfl) ?_
  intro p e s m below meth c ls A B hw hl
  have C : CallFix p m c cX9_pictureFrom 5 s _ gw "LanternState$Tape" := B.1
  have hl : lv_has ls 5 [(0, .ref qt), (1, .int f9)] := hl
  refine lv_aload_n C.1 C.2.1 dX9_pictureFrom_0 rfl (lv_at hl 0 rfl) ?_
  refine x_get C hw iwX9 8 rfl 0 rfl 2 (by decide) kw91 rfl dX9_pictureFrom_1 ?_
  refine lv_bipush (v := 8) C.1 C.2.1 dX9_pictureFrom_4 (by decide) ?_
  refine lv_icmp_eq (tgt := 11) C.1 C.2.1 dX9_pictureFrom_6 (by decide) (fun h9 => absurd h9 (by decide)) (fun _ => ?_)
  refine lv_iconst (v := (-1)) C.1 C.2.1 dX9_pictureFrom_9 (by decide) ?_
  exact x_reti B hw ⟨rfl, rfl⟩ (Nat.le_of_ble_eq_true rfl) (Nat.le_of_ble_eq_true rfl) dX9_pictureFrom_10
theorem dX9_put_0 : decode cX9_put 0 = .ok (.bipush 24, 2) := by decide +kernel
theorem dX9_put_2 : decode cX9_put 2 = .ok (.istore_n 2, 1) := by decide +kernel
theorem dX9_put_3 : decode cX9_put 3 = .ok (.iload_n 2, 1) := by decide +kernel
theorem dX9_put_4 : decode cX9_put 4 = .ok (.ifCond .lt 42, 3) := by decide +kernel
theorem dX9_put_7 : decode cX9_put 7 = .ok (.aload_n 0, 1) := by decide +kernel
theorem dX9_put_8 : decode cX9_put 8 = .ok (.getfield 33, 3) := by decide +kernel
theorem dX9_put_11 : decode cX9_put 11 = .ok (.sipush 940, 3) := by decide +kernel
theorem dX9_put_14 : decode cX9_put 14 = .ok (.if_icmp .ge 26, 3) := by decide +kernel
theorem dX9_put_17 : decode cX9_put 17 = .ok (.aload_n 0, 1) := by decide +kernel
theorem dX9_put_18 : decode cX9_put 18 = .ok (.getfield 15, 3) := by decide +kernel
theorem dX9_put_21 : decode cX9_put 21 = .ok (.aload_n 0, 1) := by decide +kernel
theorem dX9_put_22 : decode cX9_put 22 = .ok (.getfield 33, 3) := by decide +kernel
theorem dX9_put_25 : decode cX9_put 25 = .ok (.iload_n 1, 1) := by decide +kernel
theorem dX9_put_26 : decode cX9_put 26 = .ok (.iload_n 2, 1) := by decide +kernel
theorem dX9_put_27 : decode cX9_put 27 = .ok (.iushr, 1) := by decide +kernel
theorem dX9_put_28 : decode cX9_put 28 = .ok (.i2b, 1) := by decide +kernel
theorem dX9_put_29 : decode cX9_put 29 = .ok (.bastore, 1) := by decide +kernel
theorem dX9_put_30 : decode cX9_put 30 = .ok (.aload_n 0, 1) := by decide +kernel
theorem dX9_put_31 : decode cX9_put 31 = .ok (.dup, 1) := by decide +kernel
theorem dX9_put_32 : decode cX9_put 32 = .ok (.getfield 33, 3) := by decide +kernel
theorem dX9_put_35 : decode cX9_put 35 = .ok (.iconst 1, 1) := by decide +kernel
theorem dX9_put_36 : decode cX9_put 36 = .ok (.iadd, 1) := by decide +kernel
theorem dX9_put_37 : decode cX9_put 37 = .ok (.putfield 33, 3) := by decide +kernel
theorem dX9_put_40 : decode cX9_put 40 = .ok (.iinc 2 (-8), 3) := by decide +kernel
theorem dX9_put_43 : decode cX9_put 43 = .ok (.goto (-40), 3) := by decide +kernel
theorem dX9_put_46 : decode cX9_put 46 = .ok (.return_, 1) := by decide +kernel
-- Tape.put at 0
set_option maxHeartbeats 4000000 in
set_option maxRecDepth 100000 in
theorem c_X9_put0 {l : Launch} {G : Gc} (qt : Nat) (f9 : Int32) (kc : Nat) (bys : Nat) (tmo : Int32) (tfr : Int32) (tki : Int32) (tpl : Int32) (tva : Int32) (tco : Int64) (tke : Int32) (tfa : Int32) (tfp : Int32) (fb : Nat → Int32)  : Cv l yX9_put cX9_put 3 0 0 0 G [.ref qt, .int f9] [(qt, .inr (8, [.ref kc, .ref bys, .int 0, .int tmo, .int tfr, .int tki, .int tpl, .int tva, .long tco, .int tke, .int tfa, .int tfp])), (bys, eB G 940 fb)] (fun (u9 : va_W) => ∃ (gb : Nat → Int32), u9 = [(qt, .inr (8, [.ref kc, .ref bys, .int 4, .int tmo, .int tfr, .int tki, .int tpl, .int tva, .long tco, .int tke, .int tfa, .int tfp])), (bys, eB G 940 gb)]) := by
  refine Cv.of (by decide) (Nat.le_of_ble_eq_true rfl) ?_
  intro p e s m below meth c ls A B hw hl
  have C : CallFix p m c cX9_put 3 s _ gw "LanternState$Tape" := B.1
  have hl : lv_has ls 3 [(0, .ref qt), (1, .int f9)] := hl
  refine lv_bipush (v := 24) C.1 C.2.1 dX9_put_0 (by decide) ?_
  refine lv_istore_n (lv' := [(2, .int 24), (0, .ref qt), (1, .int f9)]) C.1 C.2.1 dX9_put_2 rfl hl (by decide) rfl (fun ls hl => ?_)
  refine lv_iload_n C.1 C.2.1 dX9_put_3 rfl (lv_at hl 0 rfl) ?_
  refine lv_if_lt (tgt := 46) C.1 C.2.1 dX9_put_4 (by decide) (fun h9 => absurd h9 (by decide)) (fun _ => ?_)
  refine lv_aload_n C.1 C.2.1 dX9_put_7 rfl (lv_at hl 1 rfl) ?_
  refine x_get C hw iwX9 8 rfl 0 rfl 2 (by decide) kw91 rfl dX9_put_8 ?_
  refine lv_sipush (v := 940) C.1 C.2.1 dX9_put_11 (by decide) ?_
  refine lv_icmp_ge (tgt := 40) C.1 C.2.1 dX9_put_14 (by decide) (fun h9 => absurd h9 (by decide)) (fun _ => ?_)
  refine lv_aload_n C.1 C.2.1 dX9_put_17 rfl (lv_at hl 1 rfl) ?_
  refine x_get C hw iwX9 8 rfl 0 rfl 1 (by decide) kw89 rfl dX9_put_18 ?_
  refine lv_aload_n C.1 C.2.1 dX9_put_21 rfl (lv_at hl 1 rfl) ?_
  refine x_get C hw iwX9 8 rfl 0 rfl 2 (by decide) kw91 rfl dX9_put_22 ?_
  refine lv_iload_n C.1 C.2.1 dX9_put_25 rfl (lv_at hl 2 rfl) ?_
  refine lv_iload_n C.1 C.2.1 dX9_put_26 rfl (lv_at hl 0 rfl) ?_
  refine lv_iushr (v := ((f9.toUInt32 >>> ((24 : Int32).toUInt32 &&& Int32.toUInt32 31)).toInt32)) C.1 C.2.1 dX9_put_27 rfl ?_
  refine lv_i2b (v := (((f9.toUInt32 >>> ((24 : Int32).toUInt32 &&& Int32.toUInt32 31)).toInt32).toInt8.toInt32)) C.1 C.2.1 dX9_put_28 rfl ?_
  refine x_bast (f' := (upd fb 0 (vp_nar .byte (((f9.toUInt32 >>> ((24 : Int32).toUInt32 &&& Int32.toUInt32 31)).toInt32).toInt8.toInt32)))) (w' := [(qt, .inr (8, [.ref kc, .ref bys, .int 0, .int tmo, .int tfr, .int tki, .int tpl, .int tva, .long tco, .int tke, .int tfa, .int tfp])), (bys, eB G 940 (upd fb 0 (vp_nar .byte (((f9.toUInt32 >>> ((24 : Int32).toUInt32 &&& Int32.toUInt32 31)).toInt32).toInt8.toInt32))))]) C hw 1 rfl (x_in rfl) rfl rfl dX9_put_29 (fun H locs hw => ?_)
  refine lv_aload_n C.1 C.2.1 dX9_put_30 rfl (lv_at hl 1 rfl) ?_
  refine lv_dup C.1 C.2.1 dX9_put_31 rfl ?_
  refine x_get C hw iwX9 8 rfl 0 rfl 2 (by decide) kw91 rfl dX9_put_32 ?_
  refine lv_iconst (v := 1) C.1 C.2.1 dX9_put_35 (by decide) ?_
  refine lv_iadd C.1 C.2.1 dX9_put_36 ?_
  refine x_topi (z := 1) (by decide) ?_
  refine x_put (w' := [(qt, .inr (8, [.ref kc, .ref bys, .int 1, .int tmo, .int tfr, .int tki, .int tpl, .int tva, .long tco, .int tke, .int tfa, .int tfp])), (bys, eB G 940 (upd fb 0 (vp_nar .byte (((f9.toUInt32 >>> ((24 : Int32).toUInt32 &&& Int32.toUInt32 31)).toInt32).toInt8.toInt32))))]) C hw iwX9 tyX9_ok nmX9 8 rfl 0 rfl 2 (by decide) kw91 rfl rfl rfl (Nat.le_of_ble_eq_true rfl) rfl dX9_put_37 (fun H locs hw => ?_)
  refine lv_iinc (v := 16) (lv' := [(2, .int 16), (0, .ref qt), (1, .int f9)]) C.1 C.2.1 dX9_put_40 hl (k := 0) rfl (by decide) (by decide) rfl (fun ls hl => ?_)
  refine lv_goto (tgt := 3) C.1 C.2.1 dX9_put_43 (by decide) ?_
  refine lv_iload_n C.1 C.2.1 dX9_put_3 rfl (lv_at hl 0 rfl) ?_
  refine lv_if_lt (tgt := 46) C.1 C.2.1 dX9_put_4 (by decide) (fun h9 => absurd h9 (by decide)) (fun _ => ?_)
  refine lv_aload_n C.1 C.2.1 dX9_put_7 rfl (lv_at hl 1 rfl) ?_
  refine x_get C hw iwX9 8 rfl 0 rfl 2 (by decide) kw91 rfl dX9_put_8 ?_
  refine lv_sipush (v := 940) C.1 C.2.1 dX9_put_11 (by decide) ?_
  refine lv_icmp_ge (tgt := 40) C.1 C.2.1 dX9_put_14 (by decide) (fun h9 => absurd h9 (by decide)) (fun _ => ?_)
  refine lv_aload_n C.1 C.2.1 dX9_put_17 rfl (lv_at hl 1 rfl) ?_
  refine x_get C hw iwX9 8 rfl 0 rfl 1 (by decide) kw89 rfl dX9_put_18 ?_
  refine lv_aload_n C.1 C.2.1 dX9_put_21 rfl (lv_at hl 1 rfl) ?_
  refine x_get C hw iwX9 8 rfl 0 rfl 2 (by decide) kw91 rfl dX9_put_22 ?_
  refine lv_iload_n C.1 C.2.1 dX9_put_25 rfl (lv_at hl 2 rfl) ?_
  refine lv_iload_n C.1 C.2.1 dX9_put_26 rfl (lv_at hl 0 rfl) ?_
  refine lv_iushr (v := ((f9.toUInt32 >>> ((16 : Int32).toUInt32 &&& Int32.toUInt32 31)).toInt32)) C.1 C.2.1 dX9_put_27 rfl ?_
  refine lv_i2b (v := (((f9.toUInt32 >>> ((16 : Int32).toUInt32 &&& Int32.toUInt32 31)).toInt32).toInt8.toInt32)) C.1 C.2.1 dX9_put_28 rfl ?_
  refine x_bast (f' := (upd (upd fb 0 (vp_nar .byte (((f9.toUInt32 >>> ((24 : Int32).toUInt32 &&& Int32.toUInt32 31)).toInt32).toInt8.toInt32))) 1 (vp_nar .byte (((f9.toUInt32 >>> ((16 : Int32).toUInt32 &&& Int32.toUInt32 31)).toInt32).toInt8.toInt32)))) (w' := [(qt, .inr (8, [.ref kc, .ref bys, .int 1, .int tmo, .int tfr, .int tki, .int tpl, .int tva, .long tco, .int tke, .int tfa, .int tfp])), (bys, eB G 940 (upd (upd fb 0 (vp_nar .byte (((f9.toUInt32 >>> ((24 : Int32).toUInt32 &&& Int32.toUInt32 31)).toInt32).toInt8.toInt32))) 1 (vp_nar .byte (((f9.toUInt32 >>> ((16 : Int32).toUInt32 &&& Int32.toUInt32 31)).toInt32).toInt8.toInt32))))]) C hw 1 rfl (x_in rfl) rfl rfl dX9_put_29 (fun H locs hw => ?_)
  refine lv_aload_n C.1 C.2.1 dX9_put_30 rfl (lv_at hl 1 rfl) ?_
  refine lv_dup C.1 C.2.1 dX9_put_31 rfl ?_
  refine x_get C hw iwX9 8 rfl 0 rfl 2 (by decide) kw91 rfl dX9_put_32 ?_
  refine lv_iconst (v := 1) C.1 C.2.1 dX9_put_35 (by decide) ?_
  refine lv_iadd C.1 C.2.1 dX9_put_36 ?_
  refine x_topi (z := 2) (by decide) ?_
  refine x_put (w' := [(qt, .inr (8, [.ref kc, .ref bys, .int 2, .int tmo, .int tfr, .int tki, .int tpl, .int tva, .long tco, .int tke, .int tfa, .int tfp])), (bys, eB G 940 (upd (upd fb 0 (vp_nar .byte (((f9.toUInt32 >>> ((24 : Int32).toUInt32 &&& Int32.toUInt32 31)).toInt32).toInt8.toInt32))) 1 (vp_nar .byte (((f9.toUInt32 >>> ((16 : Int32).toUInt32 &&& Int32.toUInt32 31)).toInt32).toInt8.toInt32))))]) C hw iwX9 tyX9_ok nmX9 8 rfl 0 rfl 2 (by decide) kw91 rfl rfl rfl (Nat.le_of_ble_eq_true rfl) rfl dX9_put_37 (fun H locs hw => ?_)
  refine lv_iinc (v := 8) (lv' := [(2, .int 8), (0, .ref qt), (1, .int f9)]) C.1 C.2.1 dX9_put_40 hl (k := 0) rfl (by decide) (by decide) rfl (fun ls hl => ?_)
  refine lv_goto (tgt := 3) C.1 C.2.1 dX9_put_43 (by decide) ?_
  refine lv_iload_n C.1 C.2.1 dX9_put_3 rfl (lv_at hl 0 rfl) ?_
  refine lv_if_lt (tgt := 46) C.1 C.2.1 dX9_put_4 (by decide) (fun h9 => absurd h9 (by decide)) (fun _ => ?_)
  refine lv_aload_n C.1 C.2.1 dX9_put_7 rfl (lv_at hl 1 rfl) ?_
  refine x_get C hw iwX9 8 rfl 0 rfl 2 (by decide) kw91 rfl dX9_put_8 ?_
  refine lv_sipush (v := 940) C.1 C.2.1 dX9_put_11 (by decide) ?_
  refine lv_icmp_ge (tgt := 40) C.1 C.2.1 dX9_put_14 (by decide) (fun h9 => absurd h9 (by decide)) (fun _ => ?_)
  refine lv_aload_n C.1 C.2.1 dX9_put_17 rfl (lv_at hl 1 rfl) ?_
  refine x_get C hw iwX9 8 rfl 0 rfl 1 (by decide) kw89 rfl dX9_put_18 ?_
  refine lv_aload_n C.1 C.2.1 dX9_put_21 rfl (lv_at hl 1 rfl) ?_
  refine x_get C hw iwX9 8 rfl 0 rfl 2 (by decide) kw91 rfl dX9_put_22 ?_
  refine lv_iload_n C.1 C.2.1 dX9_put_25 rfl (lv_at hl 2 rfl) ?_
  refine lv_iload_n C.1 C.2.1 dX9_put_26 rfl (lv_at hl 0 rfl) ?_
  refine lv_iushr (v := ((f9.toUInt32 >>> ((8 : Int32).toUInt32 &&& Int32.toUInt32 31)).toInt32)) C.1 C.2.1 dX9_put_27 rfl ?_
  refine lv_i2b (v := (((f9.toUInt32 >>> ((8 : Int32).toUInt32 &&& Int32.toUInt32 31)).toInt32).toInt8.toInt32)) C.1 C.2.1 dX9_put_28 rfl ?_
  refine x_bast (f' := (upd (upd (upd fb 0 (vp_nar .byte (((f9.toUInt32 >>> ((24 : Int32).toUInt32 &&& Int32.toUInt32 31)).toInt32).toInt8.toInt32))) 1 (vp_nar .byte (((f9.toUInt32 >>> ((16 : Int32).toUInt32 &&& Int32.toUInt32 31)).toInt32).toInt8.toInt32))) 2 (vp_nar .byte (((f9.toUInt32 >>> ((8 : Int32).toUInt32 &&& Int32.toUInt32 31)).toInt32).toInt8.toInt32)))) (w' := [(qt, .inr (8, [.ref kc, .ref bys, .int 2, .int tmo, .int tfr, .int tki, .int tpl, .int tva, .long tco, .int tke, .int tfa, .int tfp])), (bys, eB G 940 (upd (upd (upd fb 0 (vp_nar .byte (((f9.toUInt32 >>> ((24 : Int32).toUInt32 &&& Int32.toUInt32 31)).toInt32).toInt8.toInt32))) 1 (vp_nar .byte (((f9.toUInt32 >>> ((16 : Int32).toUInt32 &&& Int32.toUInt32 31)).toInt32).toInt8.toInt32))) 2 (vp_nar .byte (((f9.toUInt32 >>> ((8 : Int32).toUInt32 &&& Int32.toUInt32 31)).toInt32).toInt8.toInt32))))]) C hw 1 rfl (x_in rfl) rfl rfl dX9_put_29 (fun H locs hw => ?_)
  refine lv_aload_n C.1 C.2.1 dX9_put_30 rfl (lv_at hl 1 rfl) ?_
  refine lv_dup C.1 C.2.1 dX9_put_31 rfl ?_
  refine x_get C hw iwX9 8 rfl 0 rfl 2 (by decide) kw91 rfl dX9_put_32 ?_
  refine lv_iconst (v := 1) C.1 C.2.1 dX9_put_35 (by decide) ?_
  refine lv_iadd C.1 C.2.1 dX9_put_36 ?_
  refine x_topi (z := 3) (by decide) ?_
  refine x_put (w' := [(qt, .inr (8, [.ref kc, .ref bys, .int 3, .int tmo, .int tfr, .int tki, .int tpl, .int tva, .long tco, .int tke, .int tfa, .int tfp])), (bys, eB G 940 (upd (upd (upd fb 0 (vp_nar .byte (((f9.toUInt32 >>> ((24 : Int32).toUInt32 &&& Int32.toUInt32 31)).toInt32).toInt8.toInt32))) 1 (vp_nar .byte (((f9.toUInt32 >>> ((16 : Int32).toUInt32 &&& Int32.toUInt32 31)).toInt32).toInt8.toInt32))) 2 (vp_nar .byte (((f9.toUInt32 >>> ((8 : Int32).toUInt32 &&& Int32.toUInt32 31)).toInt32).toInt8.toInt32))))]) C hw iwX9 tyX9_ok nmX9 8 rfl 0 rfl 2 (by decide) kw91 rfl rfl rfl (Nat.le_of_ble_eq_true rfl) rfl dX9_put_37 (fun H locs hw => ?_)
  refine lv_iinc (v := 0) (lv' := [(2, .int 0), (0, .ref qt), (1, .int f9)]) C.1 C.2.1 dX9_put_40 hl (k := 0) rfl (by decide) (by decide) rfl (fun ls hl => ?_)
  refine lv_goto (tgt := 3) C.1 C.2.1 dX9_put_43 (by decide) ?_
  refine lv_iload_n C.1 C.2.1 dX9_put_3 rfl (lv_at hl 0 rfl) ?_
  refine lv_if_lt (tgt := 46) C.1 C.2.1 dX9_put_4 (by decide) (fun h9 => absurd h9 (by decide)) (fun _ => ?_)
  refine lv_aload_n C.1 C.2.1 dX9_put_7 rfl (lv_at hl 1 rfl) ?_
  refine x_get C hw iwX9 8 rfl 0 rfl 2 (by decide) kw91 rfl dX9_put_8 ?_
  refine lv_sipush (v := 940) C.1 C.2.1 dX9_put_11 (by decide) ?_
  refine lv_icmp_ge (tgt := 40) C.1 C.2.1 dX9_put_14 (by decide) (fun h9 => absurd h9 (by decide)) (fun _ => ?_)
  refine lv_aload_n C.1 C.2.1 dX9_put_17 rfl (lv_at hl 1 rfl) ?_
  refine x_get C hw iwX9 8 rfl 0 rfl 1 (by decide) kw89 rfl dX9_put_18 ?_
  refine lv_aload_n C.1 C.2.1 dX9_put_21 rfl (lv_at hl 1 rfl) ?_
  refine x_get C hw iwX9 8 rfl 0 rfl 2 (by decide) kw91 rfl dX9_put_22 ?_
  refine lv_iload_n C.1 C.2.1 dX9_put_25 rfl (lv_at hl 2 rfl) ?_
  refine lv_iload_n C.1 C.2.1 dX9_put_26 rfl (lv_at hl 0 rfl) ?_
  refine lv_iushr (v := ((f9.toUInt32 >>> ((0 : Int32).toUInt32 &&& Int32.toUInt32 31)).toInt32)) C.1 C.2.1 dX9_put_27 rfl ?_
  refine lv_i2b (v := (((f9.toUInt32 >>> ((0 : Int32).toUInt32 &&& Int32.toUInt32 31)).toInt32).toInt8.toInt32)) C.1 C.2.1 dX9_put_28 rfl ?_
  refine x_bast (f' := (upd (upd (upd (upd fb 0 (vp_nar .byte (((f9.toUInt32 >>> ((24 : Int32).toUInt32 &&& Int32.toUInt32 31)).toInt32).toInt8.toInt32))) 1 (vp_nar .byte (((f9.toUInt32 >>> ((16 : Int32).toUInt32 &&& Int32.toUInt32 31)).toInt32).toInt8.toInt32))) 2 (vp_nar .byte (((f9.toUInt32 >>> ((8 : Int32).toUInt32 &&& Int32.toUInt32 31)).toInt32).toInt8.toInt32))) 3 (vp_nar .byte (((f9.toUInt32 >>> ((0 : Int32).toUInt32 &&& Int32.toUInt32 31)).toInt32).toInt8.toInt32)))) (w' := [(qt, .inr (8, [.ref kc, .ref bys, .int 3, .int tmo, .int tfr, .int tki, .int tpl, .int tva, .long tco, .int tke, .int tfa, .int tfp])), (bys, eB G 940 (upd (upd (upd (upd fb 0 (vp_nar .byte (((f9.toUInt32 >>> ((24 : Int32).toUInt32 &&& Int32.toUInt32 31)).toInt32).toInt8.toInt32))) 1 (vp_nar .byte (((f9.toUInt32 >>> ((16 : Int32).toUInt32 &&& Int32.toUInt32 31)).toInt32).toInt8.toInt32))) 2 (vp_nar .byte (((f9.toUInt32 >>> ((8 : Int32).toUInt32 &&& Int32.toUInt32 31)).toInt32).toInt8.toInt32))) 3 (vp_nar .byte (((f9.toUInt32 >>> ((0 : Int32).toUInt32 &&& Int32.toUInt32 31)).toInt32).toInt8.toInt32))))]) C hw 1 rfl (x_in rfl) rfl rfl dX9_put_29 (fun H locs hw => ?_)
  refine lv_aload_n C.1 C.2.1 dX9_put_30 rfl (lv_at hl 1 rfl) ?_
  refine lv_dup C.1 C.2.1 dX9_put_31 rfl ?_
  refine x_get C hw iwX9 8 rfl 0 rfl 2 (by decide) kw91 rfl dX9_put_32 ?_
  refine lv_iconst (v := 1) C.1 C.2.1 dX9_put_35 (by decide) ?_
  refine lv_iadd C.1 C.2.1 dX9_put_36 ?_
  refine x_topi (z := 4) (by decide) ?_
  refine x_put (w' := [(qt, .inr (8, [.ref kc, .ref bys, .int 4, .int tmo, .int tfr, .int tki, .int tpl, .int tva, .long tco, .int tke, .int tfa, .int tfp])), (bys, eB G 940 (upd (upd (upd (upd fb 0 (vp_nar .byte (((f9.toUInt32 >>> ((24 : Int32).toUInt32 &&& Int32.toUInt32 31)).toInt32).toInt8.toInt32))) 1 (vp_nar .byte (((f9.toUInt32 >>> ((16 : Int32).toUInt32 &&& Int32.toUInt32 31)).toInt32).toInt8.toInt32))) 2 (vp_nar .byte (((f9.toUInt32 >>> ((8 : Int32).toUInt32 &&& Int32.toUInt32 31)).toInt32).toInt8.toInt32))) 3 (vp_nar .byte (((f9.toUInt32 >>> ((0 : Int32).toUInt32 &&& Int32.toUInt32 31)).toInt32).toInt8.toInt32))))]) C hw iwX9 tyX9_ok nmX9 8 rfl 0 rfl 2 (by decide) kw91 rfl rfl rfl (Nat.le_of_ble_eq_true rfl) rfl dX9_put_37 (fun H locs hw => ?_)
  refine lv_iinc (v := (-8)) (lv' := [(2, .int (-8)), (0, .ref qt), (1, .int f9)]) C.1 C.2.1 dX9_put_40 hl (k := 0) rfl (by decide) (by decide) rfl (fun ls hl => ?_)
  refine lv_goto (tgt := 3) C.1 C.2.1 dX9_put_43 (by decide) ?_
  refine lv_iload_n C.1 C.2.1 dX9_put_3 rfl (lv_at hl 0 rfl) ?_
  refine lv_if_lt (tgt := 46) C.1 C.2.1 dX9_put_4 (by decide) (fun _ => ?_) (fun h9 => absurd (by decide) h9)
  exact x_retv B hw ⟨(upd (upd (upd (upd fb 0 (vp_nar .byte (((f9.toUInt32 >>> ((24 : Int32).toUInt32 &&& Int32.toUInt32 31)).toInt32).toInt8.toInt32))) 1 (vp_nar .byte (((f9.toUInt32 >>> ((16 : Int32).toUInt32 &&& Int32.toUInt32 31)).toInt32).toInt8.toInt32))) 2 (vp_nar .byte (((f9.toUInt32 >>> ((8 : Int32).toUInt32 &&& Int32.toUInt32 31)).toInt32).toInt8.toInt32))) 3 (vp_nar .byte (((f9.toUInt32 >>> ((0 : Int32).toUInt32 &&& Int32.toUInt32 31)).toInt32).toInt8.toInt32))), rfl⟩ (Nat.le_of_ble_eq_true rfl) (Nat.le_of_ble_eq_true rfl) dX9_put_46
-- Tape.put at 4
set_option maxHeartbeats 4000000 in
set_option maxRecDepth 100000 in
theorem c_X9_put4 {l : Launch} {G : Gc} (qt : Nat) (f9 : Int32) (kc : Nat) (bys : Nat) (tmo : Int32) (tfr : Int32) (tki : Int32) (tpl : Int32) (tva : Int32) (tco : Int64) (tke : Int32) (tfa : Int32) (tfp : Int32) (fb : Nat → Int32)  : Cv l yX9_put cX9_put 3 0 0 0 G [.ref qt, .int f9] [(qt, .inr (8, [.ref kc, .ref bys, .int 4, .int tmo, .int tfr, .int tki, .int tpl, .int tva, .long tco, .int tke, .int tfa, .int tfp])), (bys, eB G 940 fb)] (fun (u9 : va_W) => ∃ (gb : Nat → Int32), u9 = [(qt, .inr (8, [.ref kc, .ref bys, .int 8, .int tmo, .int tfr, .int tki, .int tpl, .int tva, .long tco, .int tke, .int tfa, .int tfp])), (bys, eB G 940 gb)]) := by
  refine Cv.of (by decide) (Nat.le_of_ble_eq_true rfl) ?_
  intro p e s m below meth c ls A B hw hl
  have C : CallFix p m c cX9_put 3 s _ gw "LanternState$Tape" := B.1
  have hl : lv_has ls 3 [(0, .ref qt), (1, .int f9)] := hl
  refine lv_bipush (v := 24) C.1 C.2.1 dX9_put_0 (by decide) ?_
  refine lv_istore_n (lv' := [(2, .int 24), (0, .ref qt), (1, .int f9)]) C.1 C.2.1 dX9_put_2 rfl hl (by decide) rfl (fun ls hl => ?_)
  refine lv_iload_n C.1 C.2.1 dX9_put_3 rfl (lv_at hl 0 rfl) ?_
  refine lv_if_lt (tgt := 46) C.1 C.2.1 dX9_put_4 (by decide) (fun h9 => absurd h9 (by decide)) (fun _ => ?_)
  refine lv_aload_n C.1 C.2.1 dX9_put_7 rfl (lv_at hl 1 rfl) ?_
  refine x_get C hw iwX9 8 rfl 0 rfl 2 (by decide) kw91 rfl dX9_put_8 ?_
  refine lv_sipush (v := 940) C.1 C.2.1 dX9_put_11 (by decide) ?_
  refine lv_icmp_ge (tgt := 40) C.1 C.2.1 dX9_put_14 (by decide) (fun h9 => absurd h9 (by decide)) (fun _ => ?_)
  refine lv_aload_n C.1 C.2.1 dX9_put_17 rfl (lv_at hl 1 rfl) ?_
  refine x_get C hw iwX9 8 rfl 0 rfl 1 (by decide) kw89 rfl dX9_put_18 ?_
  refine lv_aload_n C.1 C.2.1 dX9_put_21 rfl (lv_at hl 1 rfl) ?_
  refine x_get C hw iwX9 8 rfl 0 rfl 2 (by decide) kw91 rfl dX9_put_22 ?_
  refine lv_iload_n C.1 C.2.1 dX9_put_25 rfl (lv_at hl 2 rfl) ?_
  refine lv_iload_n C.1 C.2.1 dX9_put_26 rfl (lv_at hl 0 rfl) ?_
  refine lv_iushr (v := ((f9.toUInt32 >>> ((24 : Int32).toUInt32 &&& Int32.toUInt32 31)).toInt32)) C.1 C.2.1 dX9_put_27 rfl ?_
  refine lv_i2b (v := (((f9.toUInt32 >>> ((24 : Int32).toUInt32 &&& Int32.toUInt32 31)).toInt32).toInt8.toInt32)) C.1 C.2.1 dX9_put_28 rfl ?_
  refine x_bast (f' := (upd fb 4 (vp_nar .byte (((f9.toUInt32 >>> ((24 : Int32).toUInt32 &&& Int32.toUInt32 31)).toInt32).toInt8.toInt32)))) (w' := [(qt, .inr (8, [.ref kc, .ref bys, .int 4, .int tmo, .int tfr, .int tki, .int tpl, .int tva, .long tco, .int tke, .int tfa, .int tfp])), (bys, eB G 940 (upd fb 4 (vp_nar .byte (((f9.toUInt32 >>> ((24 : Int32).toUInt32 &&& Int32.toUInt32 31)).toInt32).toInt8.toInt32))))]) C hw 1 rfl (x_in rfl) rfl rfl dX9_put_29 (fun H locs hw => ?_)
  refine lv_aload_n C.1 C.2.1 dX9_put_30 rfl (lv_at hl 1 rfl) ?_
  refine lv_dup C.1 C.2.1 dX9_put_31 rfl ?_
  refine x_get C hw iwX9 8 rfl 0 rfl 2 (by decide) kw91 rfl dX9_put_32 ?_
  refine lv_iconst (v := 1) C.1 C.2.1 dX9_put_35 (by decide) ?_
  refine lv_iadd C.1 C.2.1 dX9_put_36 ?_
  refine x_topi (z := 5) (by decide) ?_
  refine x_put (w' := [(qt, .inr (8, [.ref kc, .ref bys, .int 5, .int tmo, .int tfr, .int tki, .int tpl, .int tva, .long tco, .int tke, .int tfa, .int tfp])), (bys, eB G 940 (upd fb 4 (vp_nar .byte (((f9.toUInt32 >>> ((24 : Int32).toUInt32 &&& Int32.toUInt32 31)).toInt32).toInt8.toInt32))))]) C hw iwX9 tyX9_ok nmX9 8 rfl 0 rfl 2 (by decide) kw91 rfl rfl rfl (Nat.le_of_ble_eq_true rfl) rfl dX9_put_37 (fun H locs hw => ?_)
  refine lv_iinc (v := 16) (lv' := [(2, .int 16), (0, .ref qt), (1, .int f9)]) C.1 C.2.1 dX9_put_40 hl (k := 0) rfl (by decide) (by decide) rfl (fun ls hl => ?_)
  refine lv_goto (tgt := 3) C.1 C.2.1 dX9_put_43 (by decide) ?_
  refine lv_iload_n C.1 C.2.1 dX9_put_3 rfl (lv_at hl 0 rfl) ?_
  refine lv_if_lt (tgt := 46) C.1 C.2.1 dX9_put_4 (by decide) (fun h9 => absurd h9 (by decide)) (fun _ => ?_)
  refine lv_aload_n C.1 C.2.1 dX9_put_7 rfl (lv_at hl 1 rfl) ?_
  refine x_get C hw iwX9 8 rfl 0 rfl 2 (by decide) kw91 rfl dX9_put_8 ?_
  refine lv_sipush (v := 940) C.1 C.2.1 dX9_put_11 (by decide) ?_
  refine lv_icmp_ge (tgt := 40) C.1 C.2.1 dX9_put_14 (by decide) (fun h9 => absurd h9 (by decide)) (fun _ => ?_)
  refine lv_aload_n C.1 C.2.1 dX9_put_17 rfl (lv_at hl 1 rfl) ?_
  refine x_get C hw iwX9 8 rfl 0 rfl 1 (by decide) kw89 rfl dX9_put_18 ?_
  refine lv_aload_n C.1 C.2.1 dX9_put_21 rfl (lv_at hl 1 rfl) ?_
  refine x_get C hw iwX9 8 rfl 0 rfl 2 (by decide) kw91 rfl dX9_put_22 ?_
  refine lv_iload_n C.1 C.2.1 dX9_put_25 rfl (lv_at hl 2 rfl) ?_
  refine lv_iload_n C.1 C.2.1 dX9_put_26 rfl (lv_at hl 0 rfl) ?_
  refine lv_iushr (v := ((f9.toUInt32 >>> ((16 : Int32).toUInt32 &&& Int32.toUInt32 31)).toInt32)) C.1 C.2.1 dX9_put_27 rfl ?_
  refine lv_i2b (v := (((f9.toUInt32 >>> ((16 : Int32).toUInt32 &&& Int32.toUInt32 31)).toInt32).toInt8.toInt32)) C.1 C.2.1 dX9_put_28 rfl ?_
  refine x_bast (f' := (upd (upd fb 4 (vp_nar .byte (((f9.toUInt32 >>> ((24 : Int32).toUInt32 &&& Int32.toUInt32 31)).toInt32).toInt8.toInt32))) 5 (vp_nar .byte (((f9.toUInt32 >>> ((16 : Int32).toUInt32 &&& Int32.toUInt32 31)).toInt32).toInt8.toInt32)))) (w' := [(qt, .inr (8, [.ref kc, .ref bys, .int 5, .int tmo, .int tfr, .int tki, .int tpl, .int tva, .long tco, .int tke, .int tfa, .int tfp])), (bys, eB G 940 (upd (upd fb 4 (vp_nar .byte (((f9.toUInt32 >>> ((24 : Int32).toUInt32 &&& Int32.toUInt32 31)).toInt32).toInt8.toInt32))) 5 (vp_nar .byte (((f9.toUInt32 >>> ((16 : Int32).toUInt32 &&& Int32.toUInt32 31)).toInt32).toInt8.toInt32))))]) C hw 1 rfl (x_in rfl) rfl rfl dX9_put_29 (fun H locs hw => ?_)
  refine lv_aload_n C.1 C.2.1 dX9_put_30 rfl (lv_at hl 1 rfl) ?_
  refine lv_dup C.1 C.2.1 dX9_put_31 rfl ?_
  refine x_get C hw iwX9 8 rfl 0 rfl 2 (by decide) kw91 rfl dX9_put_32 ?_
  refine lv_iconst (v := 1) C.1 C.2.1 dX9_put_35 (by decide) ?_
  refine lv_iadd C.1 C.2.1 dX9_put_36 ?_
  refine x_topi (z := 6) (by decide) ?_
  refine x_put (w' := [(qt, .inr (8, [.ref kc, .ref bys, .int 6, .int tmo, .int tfr, .int tki, .int tpl, .int tva, .long tco, .int tke, .int tfa, .int tfp])), (bys, eB G 940 (upd (upd fb 4 (vp_nar .byte (((f9.toUInt32 >>> ((24 : Int32).toUInt32 &&& Int32.toUInt32 31)).toInt32).toInt8.toInt32))) 5 (vp_nar .byte (((f9.toUInt32 >>> ((16 : Int32).toUInt32 &&& Int32.toUInt32 31)).toInt32).toInt8.toInt32))))]) C hw iwX9 tyX9_ok nmX9 8 rfl 0 rfl 2 (by decide) kw91 rfl rfl rfl (Nat.le_of_ble_eq_true rfl) rfl dX9_put_37 (fun H locs hw => ?_)
  refine lv_iinc (v := 8) (lv' := [(2, .int 8), (0, .ref qt), (1, .int f9)]) C.1 C.2.1 dX9_put_40 hl (k := 0) rfl (by decide) (by decide) rfl (fun ls hl => ?_)
  refine lv_goto (tgt := 3) C.1 C.2.1 dX9_put_43 (by decide) ?_
  refine lv_iload_n C.1 C.2.1 dX9_put_3 rfl (lv_at hl 0 rfl) ?_
  refine lv_if_lt (tgt := 46) C.1 C.2.1 dX9_put_4 (by decide) (fun h9 => absurd h9 (by decide)) (fun _ => ?_)
  refine lv_aload_n C.1 C.2.1 dX9_put_7 rfl (lv_at hl 1 rfl) ?_
  refine x_get C hw iwX9 8 rfl 0 rfl 2 (by decide) kw91 rfl dX9_put_8 ?_
  refine lv_sipush (v := 940) C.1 C.2.1 dX9_put_11 (by decide) ?_
  refine lv_icmp_ge (tgt := 40) C.1 C.2.1 dX9_put_14 (by decide) (fun h9 => absurd h9 (by decide)) (fun _ => ?_)
  refine lv_aload_n C.1 C.2.1 dX9_put_17 rfl (lv_at hl 1 rfl) ?_
  refine x_get C hw iwX9 8 rfl 0 rfl 1 (by decide) kw89 rfl dX9_put_18 ?_
  refine lv_aload_n C.1 C.2.1 dX9_put_21 rfl (lv_at hl 1 rfl) ?_
  refine x_get C hw iwX9 8 rfl 0 rfl 2 (by decide) kw91 rfl dX9_put_22 ?_
  refine lv_iload_n C.1 C.2.1 dX9_put_25 rfl (lv_at hl 2 rfl) ?_
  refine lv_iload_n C.1 C.2.1 dX9_put_26 rfl (lv_at hl 0 rfl) ?_
  refine lv_iushr (v := ((f9.toUInt32 >>> ((8 : Int32).toUInt32 &&& Int32.toUInt32 31)).toInt32)) C.1 C.2.1 dX9_put_27 rfl ?_
  refine lv_i2b (v := (((f9.toUInt32 >>> ((8 : Int32).toUInt32 &&& Int32.toUInt32 31)).toInt32).toInt8.toInt32)) C.1 C.2.1 dX9_put_28 rfl ?_
  refine x_bast (f' := (upd (upd (upd fb 4 (vp_nar .byte (((f9.toUInt32 >>> ((24 : Int32).toUInt32 &&& Int32.toUInt32 31)).toInt32).toInt8.toInt32))) 5 (vp_nar .byte (((f9.toUInt32 >>> ((16 : Int32).toUInt32 &&& Int32.toUInt32 31)).toInt32).toInt8.toInt32))) 6 (vp_nar .byte (((f9.toUInt32 >>> ((8 : Int32).toUInt32 &&& Int32.toUInt32 31)).toInt32).toInt8.toInt32)))) (w' := [(qt, .inr (8, [.ref kc, .ref bys, .int 6, .int tmo, .int tfr, .int tki, .int tpl, .int tva, .long tco, .int tke, .int tfa, .int tfp])), (bys, eB G 940 (upd (upd (upd fb 4 (vp_nar .byte (((f9.toUInt32 >>> ((24 : Int32).toUInt32 &&& Int32.toUInt32 31)).toInt32).toInt8.toInt32))) 5 (vp_nar .byte (((f9.toUInt32 >>> ((16 : Int32).toUInt32 &&& Int32.toUInt32 31)).toInt32).toInt8.toInt32))) 6 (vp_nar .byte (((f9.toUInt32 >>> ((8 : Int32).toUInt32 &&& Int32.toUInt32 31)).toInt32).toInt8.toInt32))))]) C hw 1 rfl (x_in rfl) rfl rfl dX9_put_29 (fun H locs hw => ?_)
  refine lv_aload_n C.1 C.2.1 dX9_put_30 rfl (lv_at hl 1 rfl) ?_
  refine lv_dup C.1 C.2.1 dX9_put_31 rfl ?_
  refine x_get C hw iwX9 8 rfl 0 rfl 2 (by decide) kw91 rfl dX9_put_32 ?_
  refine lv_iconst (v := 1) C.1 C.2.1 dX9_put_35 (by decide) ?_
  refine lv_iadd C.1 C.2.1 dX9_put_36 ?_
  refine x_topi (z := 7) (by decide) ?_
  refine x_put (w' := [(qt, .inr (8, [.ref kc, .ref bys, .int 7, .int tmo, .int tfr, .int tki, .int tpl, .int tva, .long tco, .int tke, .int tfa, .int tfp])), (bys, eB G 940 (upd (upd (upd fb 4 (vp_nar .byte (((f9.toUInt32 >>> ((24 : Int32).toUInt32 &&& Int32.toUInt32 31)).toInt32).toInt8.toInt32))) 5 (vp_nar .byte (((f9.toUInt32 >>> ((16 : Int32).toUInt32 &&& Int32.toUInt32 31)).toInt32).toInt8.toInt32))) 6 (vp_nar .byte (((f9.toUInt32 >>> ((8 : Int32).toUInt32 &&& Int32.toUInt32 31)).toInt32).toInt8.toInt32))))]) C hw iwX9 tyX9_ok nmX9 8 rfl 0 rfl 2 (by decide) kw91 rfl rfl rfl (Nat.le_of_ble_eq_true rfl) rfl dX9_put_37 (fun H locs hw => ?_)
  refine lv_iinc (v := 0) (lv' := [(2, .int 0), (0, .ref qt), (1, .int f9)]) C.1 C.2.1 dX9_put_40 hl (k := 0) rfl (by decide) (by decide) rfl (fun ls hl => ?_)
  refine lv_goto (tgt := 3) C.1 C.2.1 dX9_put_43 (by decide) ?_
  refine lv_iload_n C.1 C.2.1 dX9_put_3 rfl (lv_at hl 0 rfl) ?_
  refine lv_if_lt (tgt := 46) C.1 C.2.1 dX9_put_4 (by decide) (fun h9 => absurd h9 (by decide)) (fun _ => ?_)
  refine lv_aload_n C.1 C.2.1 dX9_put_7 rfl (lv_at hl 1 rfl) ?_
  refine x_get C hw iwX9 8 rfl 0 rfl 2 (by decide) kw91 rfl dX9_put_8 ?_
  refine lv_sipush (v := 940) C.1 C.2.1 dX9_put_11 (by decide) ?_
  refine lv_icmp_ge (tgt := 40) C.1 C.2.1 dX9_put_14 (by decide) (fun h9 => absurd h9 (by decide)) (fun _ => ?_)
  refine lv_aload_n C.1 C.2.1 dX9_put_17 rfl (lv_at hl 1 rfl) ?_
  refine x_get C hw iwX9 8 rfl 0 rfl 1 (by decide) kw89 rfl dX9_put_18 ?_
  refine lv_aload_n C.1 C.2.1 dX9_put_21 rfl (lv_at hl 1 rfl) ?_
  refine x_get C hw iwX9 8 rfl 0 rfl 2 (by decide) kw91 rfl dX9_put_22 ?_
  refine lv_iload_n C.1 C.2.1 dX9_put_25 rfl (lv_at hl 2 rfl) ?_
  refine lv_iload_n C.1 C.2.1 dX9_put_26 rfl (lv_at hl 0 rfl) ?_
  refine lv_iushr (v := ((f9.toUInt32 >>> ((0 : Int32).toUInt32 &&& Int32.toUInt32 31)).toInt32)) C.1 C.2.1 dX9_put_27 rfl ?_
  refine lv_i2b (v := (((f9.toUInt32 >>> ((0 : Int32).toUInt32 &&& Int32.toUInt32 31)).toInt32).toInt8.toInt32)) C.1 C.2.1 dX9_put_28 rfl ?_
  refine x_bast (f' := (upd (upd (upd (upd fb 4 (vp_nar .byte (((f9.toUInt32 >>> ((24 : Int32).toUInt32 &&& Int32.toUInt32 31)).toInt32).toInt8.toInt32))) 5 (vp_nar .byte (((f9.toUInt32 >>> ((16 : Int32).toUInt32 &&& Int32.toUInt32 31)).toInt32).toInt8.toInt32))) 6 (vp_nar .byte (((f9.toUInt32 >>> ((8 : Int32).toUInt32 &&& Int32.toUInt32 31)).toInt32).toInt8.toInt32))) 7 (vp_nar .byte (((f9.toUInt32 >>> ((0 : Int32).toUInt32 &&& Int32.toUInt32 31)).toInt32).toInt8.toInt32)))) (w' := [(qt, .inr (8, [.ref kc, .ref bys, .int 7, .int tmo, .int tfr, .int tki, .int tpl, .int tva, .long tco, .int tke, .int tfa, .int tfp])), (bys, eB G 940 (upd (upd (upd (upd fb 4 (vp_nar .byte (((f9.toUInt32 >>> ((24 : Int32).toUInt32 &&& Int32.toUInt32 31)).toInt32).toInt8.toInt32))) 5 (vp_nar .byte (((f9.toUInt32 >>> ((16 : Int32).toUInt32 &&& Int32.toUInt32 31)).toInt32).toInt8.toInt32))) 6 (vp_nar .byte (((f9.toUInt32 >>> ((8 : Int32).toUInt32 &&& Int32.toUInt32 31)).toInt32).toInt8.toInt32))) 7 (vp_nar .byte (((f9.toUInt32 >>> ((0 : Int32).toUInt32 &&& Int32.toUInt32 31)).toInt32).toInt8.toInt32))))]) C hw 1 rfl (x_in rfl) rfl rfl dX9_put_29 (fun H locs hw => ?_)
  refine lv_aload_n C.1 C.2.1 dX9_put_30 rfl (lv_at hl 1 rfl) ?_
  refine lv_dup C.1 C.2.1 dX9_put_31 rfl ?_
  refine x_get C hw iwX9 8 rfl 0 rfl 2 (by decide) kw91 rfl dX9_put_32 ?_
  refine lv_iconst (v := 1) C.1 C.2.1 dX9_put_35 (by decide) ?_
  refine lv_iadd C.1 C.2.1 dX9_put_36 ?_
  refine x_topi (z := 8) (by decide) ?_
  refine x_put (w' := [(qt, .inr (8, [.ref kc, .ref bys, .int 8, .int tmo, .int tfr, .int tki, .int tpl, .int tva, .long tco, .int tke, .int tfa, .int tfp])), (bys, eB G 940 (upd (upd (upd (upd fb 4 (vp_nar .byte (((f9.toUInt32 >>> ((24 : Int32).toUInt32 &&& Int32.toUInt32 31)).toInt32).toInt8.toInt32))) 5 (vp_nar .byte (((f9.toUInt32 >>> ((16 : Int32).toUInt32 &&& Int32.toUInt32 31)).toInt32).toInt8.toInt32))) 6 (vp_nar .byte (((f9.toUInt32 >>> ((8 : Int32).toUInt32 &&& Int32.toUInt32 31)).toInt32).toInt8.toInt32))) 7 (vp_nar .byte (((f9.toUInt32 >>> ((0 : Int32).toUInt32 &&& Int32.toUInt32 31)).toInt32).toInt8.toInt32))))]) C hw iwX9 tyX9_ok nmX9 8 rfl 0 rfl 2 (by decide) kw91 rfl rfl rfl (Nat.le_of_ble_eq_true rfl) rfl dX9_put_37 (fun H locs hw => ?_)
  refine lv_iinc (v := (-8)) (lv' := [(2, .int (-8)), (0, .ref qt), (1, .int f9)]) C.1 C.2.1 dX9_put_40 hl (k := 0) rfl (by decide) (by decide) rfl (fun ls hl => ?_)
  refine lv_goto (tgt := 3) C.1 C.2.1 dX9_put_43 (by decide) ?_
  refine lv_iload_n C.1 C.2.1 dX9_put_3 rfl (lv_at hl 0 rfl) ?_
  refine lv_if_lt (tgt := 46) C.1 C.2.1 dX9_put_4 (by decide) (fun _ => ?_) (fun h9 => absurd (by decide) h9)
  exact x_retv B hw ⟨(upd (upd (upd (upd fb 4 (vp_nar .byte (((f9.toUInt32 >>> ((24 : Int32).toUInt32 &&& Int32.toUInt32 31)).toInt32).toInt8.toInt32))) 5 (vp_nar .byte (((f9.toUInt32 >>> ((16 : Int32).toUInt32 &&& Int32.toUInt32 31)).toInt32).toInt8.toInt32))) 6 (vp_nar .byte (((f9.toUInt32 >>> ((8 : Int32).toUInt32 &&& Int32.toUInt32 31)).toInt32).toInt8.toInt32))) 7 (vp_nar .byte (((f9.toUInt32 >>> ((0 : Int32).toUInt32 &&& Int32.toUInt32 31)).toInt32).toInt8.toInt32))), rfl⟩ (Nat.le_of_ble_eq_true rfl) (Nat.le_of_ble_eq_true rfl) dX9_put_46
-- Tape.put at 8
set_option maxHeartbeats 4000000 in
set_option maxRecDepth 100000 in
theorem c_X9_put8 {l : Launch} {G : Gc} (qt : Nat) (f9 : Int32) (kc : Nat) (bys : Nat) (tmo : Int32) (tfr : Int32) (tki : Int32) (tpl : Int32) (tva : Int32) (tco : Int64) (tke : Int32) (tfa : Int32) (tfp : Int32) (fb : Nat → Int32)  : Cv l yX9_put cX9_put 3 0 0 0 G [.ref qt, .int f9] [(qt, .inr (8, [.ref kc, .ref bys, .int 8, .int tmo, .int tfr, .int tki, .int tpl, .int tva, .long tco, .int tke, .int tfa, .int tfp])), (bys, eB G 940 fb)] (fun (u9 : va_W) => ∃ (gb : Nat → Int32), u9 = [(qt, .inr (8, [.ref kc, .ref bys, .int 12, .int tmo, .int tfr, .int tki, .int tpl, .int tva, .long tco, .int tke, .int tfa, .int tfp])), (bys, eB G 940 gb)]) := by
  refine Cv.of (by decide) (Nat.le_of_ble_eq_true rfl) ?_
  intro p e s m below meth c ls A B hw hl
  have C : CallFix p m c cX9_put 3 s _ gw "LanternState$Tape" := B.1
  have hl : lv_has ls 3 [(0, .ref qt), (1, .int f9)] := hl
  refine lv_bipush (v := 24) C.1 C.2.1 dX9_put_0 (by decide) ?_
  refine lv_istore_n (lv' := [(2, .int 24), (0, .ref qt), (1, .int f9)]) C.1 C.2.1 dX9_put_2 rfl hl (by decide) rfl (fun ls hl => ?_)
  refine lv_iload_n C.1 C.2.1 dX9_put_3 rfl (lv_at hl 0 rfl) ?_
  refine lv_if_lt (tgt := 46) C.1 C.2.1 dX9_put_4 (by decide) (fun h9 => absurd h9 (by decide)) (fun _ => ?_)
  refine lv_aload_n C.1 C.2.1 dX9_put_7 rfl (lv_at hl 1 rfl) ?_
  refine x_get C hw iwX9 8 rfl 0 rfl 2 (by decide) kw91 rfl dX9_put_8 ?_
  refine lv_sipush (v := 940) C.1 C.2.1 dX9_put_11 (by decide) ?_
  refine lv_icmp_ge (tgt := 40) C.1 C.2.1 dX9_put_14 (by decide) (fun h9 => absurd h9 (by decide)) (fun _ => ?_)
  refine lv_aload_n C.1 C.2.1 dX9_put_17 rfl (lv_at hl 1 rfl) ?_
  refine x_get C hw iwX9 8 rfl 0 rfl 1 (by decide) kw89 rfl dX9_put_18 ?_
  refine lv_aload_n C.1 C.2.1 dX9_put_21 rfl (lv_at hl 1 rfl) ?_
  refine x_get C hw iwX9 8 rfl 0 rfl 2 (by decide) kw91 rfl dX9_put_22 ?_
  refine lv_iload_n C.1 C.2.1 dX9_put_25 rfl (lv_at hl 2 rfl) ?_
  refine lv_iload_n C.1 C.2.1 dX9_put_26 rfl (lv_at hl 0 rfl) ?_
  refine lv_iushr (v := ((f9.toUInt32 >>> ((24 : Int32).toUInt32 &&& Int32.toUInt32 31)).toInt32)) C.1 C.2.1 dX9_put_27 rfl ?_
  refine lv_i2b (v := (((f9.toUInt32 >>> ((24 : Int32).toUInt32 &&& Int32.toUInt32 31)).toInt32).toInt8.toInt32)) C.1 C.2.1 dX9_put_28 rfl ?_
  refine x_bast (f' := (upd fb 8 (vp_nar .byte (((f9.toUInt32 >>> ((24 : Int32).toUInt32 &&& Int32.toUInt32 31)).toInt32).toInt8.toInt32)))) (w' := [(qt, .inr (8, [.ref kc, .ref bys, .int 8, .int tmo, .int tfr, .int tki, .int tpl, .int tva, .long tco, .int tke, .int tfa, .int tfp])), (bys, eB G 940 (upd fb 8 (vp_nar .byte (((f9.toUInt32 >>> ((24 : Int32).toUInt32 &&& Int32.toUInt32 31)).toInt32).toInt8.toInt32))))]) C hw 1 rfl (x_in rfl) rfl rfl dX9_put_29 (fun H locs hw => ?_)
  refine lv_aload_n C.1 C.2.1 dX9_put_30 rfl (lv_at hl 1 rfl) ?_
  refine lv_dup C.1 C.2.1 dX9_put_31 rfl ?_
  refine x_get C hw iwX9 8 rfl 0 rfl 2 (by decide) kw91 rfl dX9_put_32 ?_
  refine lv_iconst (v := 1) C.1 C.2.1 dX9_put_35 (by decide) ?_
  refine lv_iadd C.1 C.2.1 dX9_put_36 ?_
  refine x_topi (z := 9) (by decide) ?_
  refine x_put (w' := [(qt, .inr (8, [.ref kc, .ref bys, .int 9, .int tmo, .int tfr, .int tki, .int tpl, .int tva, .long tco, .int tke, .int tfa, .int tfp])), (bys, eB G 940 (upd fb 8 (vp_nar .byte (((f9.toUInt32 >>> ((24 : Int32).toUInt32 &&& Int32.toUInt32 31)).toInt32).toInt8.toInt32))))]) C hw iwX9 tyX9_ok nmX9 8 rfl 0 rfl 2 (by decide) kw91 rfl rfl rfl (Nat.le_of_ble_eq_true rfl) rfl dX9_put_37 (fun H locs hw => ?_)
  refine lv_iinc (v := 16) (lv' := [(2, .int 16), (0, .ref qt), (1, .int f9)]) C.1 C.2.1 dX9_put_40 hl (k := 0) rfl (by decide) (by decide) rfl (fun ls hl => ?_)
  refine lv_goto (tgt := 3) C.1 C.2.1 dX9_put_43 (by decide) ?_
  refine lv_iload_n C.1 C.2.1 dX9_put_3 rfl (lv_at hl 0 rfl) ?_
  refine lv_if_lt (tgt := 46) C.1 C.2.1 dX9_put_4 (by decide) (fun h9 => absurd h9 (by decide)) (fun _ => ?_)
  refine lv_aload_n C.1 C.2.1 dX9_put_7 rfl (lv_at hl 1 rfl) ?_
  refine x_get C hw iwX9 8 rfl 0 rfl 2 (by decide) kw91 rfl dX9_put_8 ?_
  refine lv_sipush (v := 940) C.1 C.2.1 dX9_put_11 (by decide) ?_
  refine lv_icmp_ge (tgt := 40) C.1 C.2.1 dX9_put_14 (by decide) (fun h9 => absurd h9 (by decide)) (fun _ => ?_)
  refine lv_aload_n C.1 C.2.1 dX9_put_17 rfl (lv_at hl 1 rfl) ?_
  refine x_get C hw iwX9 8 rfl 0 rfl 1 (by decide) kw89 rfl dX9_put_18 ?_
  refine lv_aload_n C.1 C.2.1 dX9_put_21 rfl (lv_at hl 1 rfl) ?_
  refine x_get C hw iwX9 8 rfl 0 rfl 2 (by decide) kw91 rfl dX9_put_22 ?_
  refine lv_iload_n C.1 C.2.1 dX9_put_25 rfl (lv_at hl 2 rfl) ?_
  refine lv_iload_n C.1 C.2.1 dX9_put_26 rfl (lv_at hl 0 rfl) ?_
  refine lv_iushr (v := ((f9.toUInt32 >>> ((16 : Int32).toUInt32 &&& Int32.toUInt32 31)).toInt32)) C.1 C.2.1 dX9_put_27 rfl ?_
  refine lv_i2b (v := (((f9.toUInt32 >>> ((16 : Int32).toUInt32 &&& Int32.toUInt32 31)).toInt32).toInt8.toInt32)) C.1 C.2.1 dX9_put_28 rfl ?_
  refine x_bast (f' := (upd (upd fb 8 (vp_nar .byte (((f9.toUInt32 >>> ((24 : Int32).toUInt32 &&& Int32.toUInt32 31)).toInt32).toInt8.toInt32))) 9 (vp_nar .byte (((f9.toUInt32 >>> ((16 : Int32).toUInt32 &&& Int32.toUInt32 31)).toInt32).toInt8.toInt32)))) (w' := [(qt, .inr (8, [.ref kc, .ref bys, .int 9, .int tmo, .int tfr, .int tki, .int tpl, .int tva, .long tco, .int tke, .int tfa, .int tfp])), (bys, eB G 940 (upd (upd fb 8 (vp_nar .byte (((f9.toUInt32 >>> ((24 : Int32).toUInt32 &&& Int32.toUInt32 31)).toInt32).toInt8.toInt32))) 9 (vp_nar .byte (((f9.toUInt32 >>> ((16 : Int32).toUInt32 &&& Int32.toUInt32 31)).toInt32).toInt8.toInt32))))]) C hw 1 rfl (x_in rfl) rfl rfl dX9_put_29 (fun H locs hw => ?_)
  refine lv_aload_n C.1 C.2.1 dX9_put_30 rfl (lv_at hl 1 rfl) ?_
  refine lv_dup C.1 C.2.1 dX9_put_31 rfl ?_
  refine x_get C hw iwX9 8 rfl 0 rfl 2 (by decide) kw91 rfl dX9_put_32 ?_
  refine lv_iconst (v := 1) C.1 C.2.1 dX9_put_35 (by decide) ?_
  refine lv_iadd C.1 C.2.1 dX9_put_36 ?_
  refine x_topi (z := 10) (by decide) ?_
  refine x_put (w' := [(qt, .inr (8, [.ref kc, .ref bys, .int 10, .int tmo, .int tfr, .int tki, .int tpl, .int tva, .long tco, .int tke, .int tfa, .int tfp])), (bys, eB G 940 (upd (upd fb 8 (vp_nar .byte (((f9.toUInt32 >>> ((24 : Int32).toUInt32 &&& Int32.toUInt32 31)).toInt32).toInt8.toInt32))) 9 (vp_nar .byte (((f9.toUInt32 >>> ((16 : Int32).toUInt32 &&& Int32.toUInt32 31)).toInt32).toInt8.toInt32))))]) C hw iwX9 tyX9_ok nmX9 8 rfl 0 rfl 2 (by decide) kw91 rfl rfl rfl (Nat.le_of_ble_eq_true rfl) rfl dX9_put_37 (fun H locs hw => ?_)
  refine lv_iinc (v := 8) (lv' := [(2, .int 8), (0, .ref qt), (1, .int f9)]) C.1 C.2.1 dX9_put_40 hl (k := 0) rfl (by decide) (by decide) rfl (fun ls hl => ?_)
  refine lv_goto (tgt := 3) C.1 C.2.1 dX9_put_43 (by decide) ?_
  refine lv_iload_n C.1 C.2.1 dX9_put_3 rfl (lv_at hl 0 rfl) ?_
  refine lv_if_lt (tgt := 46) C.1 C.2.1 dX9_put_4 (by decide) (fun h9 => absurd h9 (by decide)) (fun _ => ?_)
  refine lv_aload_n C.1 C.2.1 dX9_put_7 rfl (lv_at hl 1 rfl) ?_
  refine x_get C hw iwX9 8 rfl 0 rfl 2 (by decide) kw91 rfl dX9_put_8 ?_
  refine lv_sipush (v := 940) C.1 C.2.1 dX9_put_11 (by decide) ?_
  refine lv_icmp_ge (tgt := 40) C.1 C.2.1 dX9_put_14 (by decide) (fun h9 => absurd h9 (by decide)) (fun _ => ?_)
  refine lv_aload_n C.1 C.2.1 dX9_put_17 rfl (lv_at hl 1 rfl) ?_
  refine x_get C hw iwX9 8 rfl 0 rfl 1 (by decide) kw89 rfl dX9_put_18 ?_
  refine lv_aload_n C.1 C.2.1 dX9_put_21 rfl (lv_at hl 1 rfl) ?_
  refine x_get C hw iwX9 8 rfl 0 rfl 2 (by decide) kw91 rfl dX9_put_22 ?_
  refine lv_iload_n C.1 C.2.1 dX9_put_25 rfl (lv_at hl 2 rfl) ?_
  refine lv_iload_n C.1 C.2.1 dX9_put_26 rfl (lv_at hl 0 rfl) ?_
  refine lv_iushr (v := ((f9.toUInt32 >>> ((8 : Int32).toUInt32 &&& Int32.toUInt32 31)).toInt32)) C.1 C.2.1 dX9_put_27 rfl ?_
  refine lv_i2b (v := (((f9.toUInt32 >>> ((8 : Int32).toUInt32 &&& Int32.toUInt32 31)).toInt32).toInt8.toInt32)) C.1 C.2.1 dX9_put_28 rfl ?_
  refine x_bast (f' := (upd (upd (upd fb 8 (vp_nar .byte (((f9.toUInt32 >>> ((24 : Int32).toUInt32 &&& Int32.toUInt32 31)).toInt32).toInt8.toInt32))) 9 (vp_nar .byte (((f9.toUInt32 >>> ((16 : Int32).toUInt32 &&& Int32.toUInt32 31)).toInt32).toInt8.toInt32))) 10 (vp_nar .byte (((f9.toUInt32 >>> ((8 : Int32).toUInt32 &&& Int32.toUInt32 31)).toInt32).toInt8.toInt32)))) (w' := [(qt, .inr (8, [.ref kc, .ref bys, .int 10, .int tmo, .int tfr, .int tki, .int tpl, .int tva, .long tco, .int tke, .int tfa, .int tfp])), (bys, eB G 940 (upd (upd (upd fb 8 (vp_nar .byte (((f9.toUInt32 >>> ((24 : Int32).toUInt32 &&& Int32.toUInt32 31)).toInt32).toInt8.toInt32))) 9 (vp_nar .byte (((f9.toUInt32 >>> ((16 : Int32).toUInt32 &&& Int32.toUInt32 31)).toInt32).toInt8.toInt32))) 10 (vp_nar .byte (((f9.toUInt32 >>> ((8 : Int32).toUInt32 &&& Int32.toUInt32 31)).toInt32).toInt8.toInt32))))]) C hw 1 rfl (x_in rfl) rfl rfl dX9_put_29 (fun H locs hw => ?_)
  refine lv_aload_n C.1 C.2.1 dX9_put_30 rfl (lv_at hl 1 rfl) ?_
  refine lv_dup C.1 C.2.1 dX9_put_31 rfl ?_
  refine x_get C hw iwX9 8 rfl 0 rfl 2 (by decide) kw91 rfl dX9_put_32 ?_
  refine lv_iconst (v := 1) C.1 C.2.1 dX9_put_35 (by decide) ?_
  refine lv_iadd C.1 C.2.1 dX9_put_36 ?_
  refine x_topi (z := 11) (by decide) ?_
  refine x_put (w' := [(qt, .inr (8, [.ref kc, .ref bys, .int 11, .int tmo, .int tfr, .int tki, .int tpl, .int tva, .long tco, .int tke, .int tfa, .int tfp])), (bys, eB G 940 (upd (upd (upd fb 8 (vp_nar .byte (((f9.toUInt32 >>> ((24 : Int32).toUInt32 &&& Int32.toUInt32 31)).toInt32).toInt8.toInt32))) 9 (vp_nar .byte (((f9.toUInt32 >>> ((16 : Int32).toUInt32 &&& Int32.toUInt32 31)).toInt32).toInt8.toInt32))) 10 (vp_nar .byte (((f9.toUInt32 >>> ((8 : Int32).toUInt32 &&& Int32.toUInt32 31)).toInt32).toInt8.toInt32))))]) C hw iwX9 tyX9_ok nmX9 8 rfl 0 rfl 2 (by decide) kw91 rfl rfl rfl (Nat.le_of_ble_eq_true rfl) rfl dX9_put_37 (fun H locs hw => ?_)
  refine lv_iinc (v := 0) (lv' := [(2, .int 0), (0, .ref qt), (1, .int f9)]) C.1 C.2.1 dX9_put_40 hl (k := 0) rfl (by decide) (by decide) rfl (fun ls hl => ?_)
  refine lv_goto (tgt := 3) C.1 C.2.1 dX9_put_43 (by decide) ?_
  refine lv_iload_n C.1 C.2.1 dX9_put_3 rfl (lv_at hl 0 rfl) ?_
  refine lv_if_lt (tgt := 46) C.1 C.2.1 dX9_put_4 (by decide) (fun h9 => absurd h9 (by decide)) (fun _ => ?_)
  refine lv_aload_n C.1 C.2.1 dX9_put_7 rfl (lv_at hl 1 rfl) ?_
  refine x_get C hw iwX9 8 rfl 0 rfl 2 (by decide) kw91 rfl dX9_put_8 ?_
  refine lv_sipush (v := 940) C.1 C.2.1 dX9_put_11 (by decide) ?_
  refine lv_icmp_ge (tgt := 40) C.1 C.2.1 dX9_put_14 (by decide) (fun h9 => absurd h9 (by decide)) (fun _ => ?_)
  refine lv_aload_n C.1 C.2.1 dX9_put_17 rfl (lv_at hl 1 rfl) ?_
  refine x_get C hw iwX9 8 rfl 0 rfl 1 (by decide) kw89 rfl dX9_put_18 ?_
  refine lv_aload_n C.1 C.2.1 dX9_put_21 rfl (lv_at hl 1 rfl) ?_
  refine x_get C hw iwX9 8 rfl 0 rfl 2 (by decide) kw91 rfl dX9_put_22 ?_
  refine lv_iload_n C.1 C.2.1 dX9_put_25 rfl (lv_at hl 2 rfl) ?_
  refine lv_iload_n C.1 C.2.1 dX9_put_26 rfl (lv_at hl 0 rfl) ?_
  refine lv_iushr (v := ((f9.toUInt32 >>> ((0 : Int32).toUInt32 &&& Int32.toUInt32 31)).toInt32)) C.1 C.2.1 dX9_put_27 rfl ?_
  refine lv_i2b (v := (((f9.toUInt32 >>> ((0 : Int32).toUInt32 &&& Int32.toUInt32 31)).toInt32).toInt8.toInt32)) C.1 C.2.1 dX9_put_28 rfl ?_
  refine x_bast (f' := (upd (upd (upd (upd fb 8 (vp_nar .byte (((f9.toUInt32 >>> ((24 : Int32).toUInt32 &&& Int32.toUInt32 31)).toInt32).toInt8.toInt32))) 9 (vp_nar .byte (((f9.toUInt32 >>> ((16 : Int32).toUInt32 &&& Int32.toUInt32 31)).toInt32).toInt8.toInt32))) 10 (vp_nar .byte (((f9.toUInt32 >>> ((8 : Int32).toUInt32 &&& Int32.toUInt32 31)).toInt32).toInt8.toInt32))) 11 (vp_nar .byte (((f9.toUInt32 >>> ((0 : Int32).toUInt32 &&& Int32.toUInt32 31)).toInt32).toInt8.toInt32)))) (w' := [(qt, .inr (8, [.ref kc, .ref bys, .int 11, .int tmo, .int tfr, .int tki, .int tpl, .int tva, .long tco, .int tke, .int tfa, .int tfp])), (bys, eB G 940 (upd (upd (upd (upd fb 8 (vp_nar .byte (((f9.toUInt32 >>> ((24 : Int32).toUInt32 &&& Int32.toUInt32 31)).toInt32).toInt8.toInt32))) 9 (vp_nar .byte (((f9.toUInt32 >>> ((16 : Int32).toUInt32 &&& Int32.toUInt32 31)).toInt32).toInt8.toInt32))) 10 (vp_nar .byte (((f9.toUInt32 >>> ((8 : Int32).toUInt32 &&& Int32.toUInt32 31)).toInt32).toInt8.toInt32))) 11 (vp_nar .byte (((f9.toUInt32 >>> ((0 : Int32).toUInt32 &&& Int32.toUInt32 31)).toInt32).toInt8.toInt32))))]) C hw 1 rfl (x_in rfl) rfl rfl dX9_put_29 (fun H locs hw => ?_)
  refine lv_aload_n C.1 C.2.1 dX9_put_30 rfl (lv_at hl 1 rfl) ?_
  refine lv_dup C.1 C.2.1 dX9_put_31 rfl ?_
  refine x_get C hw iwX9 8 rfl 0 rfl 2 (by decide) kw91 rfl dX9_put_32 ?_
  refine lv_iconst (v := 1) C.1 C.2.1 dX9_put_35 (by decide) ?_
  refine lv_iadd C.1 C.2.1 dX9_put_36 ?_
  refine x_topi (z := 12) (by decide) ?_
  refine x_put (w' := [(qt, .inr (8, [.ref kc, .ref bys, .int 12, .int tmo, .int tfr, .int tki, .int tpl, .int tva, .long tco, .int tke, .int tfa, .int tfp])), (bys, eB G 940 (upd (upd (upd (upd fb 8 (vp_nar .byte (((f9.toUInt32 >>> ((24 : Int32).toUInt32 &&& Int32.toUInt32 31)).toInt32).toInt8.toInt32))) 9 (vp_nar .byte (((f9.toUInt32 >>> ((16 : Int32).toUInt32 &&& Int32.toUInt32 31)).toInt32).toInt8.toInt32))) 10 (vp_nar .byte (((f9.toUInt32 >>> ((8 : Int32).toUInt32 &&& Int32.toUInt32 31)).toInt32).toInt8.toInt32))) 11 (vp_nar .byte (((f9.toUInt32 >>> ((0 : Int32).toUInt32 &&& Int32.toUInt32 31)).toInt32).toInt8.toInt32))))]) C hw iwX9 tyX9_ok nmX9 8 rfl 0 rfl 2 (by decide) kw91 rfl rfl rfl (Nat.le_of_ble_eq_true rfl) rfl dX9_put_37 (fun H locs hw => ?_)
  refine lv_iinc (v := (-8)) (lv' := [(2, .int (-8)), (0, .ref qt), (1, .int f9)]) C.1 C.2.1 dX9_put_40 hl (k := 0) rfl (by decide) (by decide) rfl (fun ls hl => ?_)
  refine lv_goto (tgt := 3) C.1 C.2.1 dX9_put_43 (by decide) ?_
  refine lv_iload_n C.1 C.2.1 dX9_put_3 rfl (lv_at hl 0 rfl) ?_
  refine lv_if_lt (tgt := 46) C.1 C.2.1 dX9_put_4 (by decide) (fun _ => ?_) (fun h9 => absurd (by decide) h9)
  exact x_retv B hw ⟨(upd (upd (upd (upd fb 8 (vp_nar .byte (((f9.toUInt32 >>> ((24 : Int32).toUInt32 &&& Int32.toUInt32 31)).toInt32).toInt8.toInt32))) 9 (vp_nar .byte (((f9.toUInt32 >>> ((16 : Int32).toUInt32 &&& Int32.toUInt32 31)).toInt32).toInt8.toInt32))) 10 (vp_nar .byte (((f9.toUInt32 >>> ((8 : Int32).toUInt32 &&& Int32.toUInt32 31)).toInt32).toInt8.toInt32))) 11 (vp_nar .byte (((f9.toUInt32 >>> ((0 : Int32).toUInt32 &&& Int32.toUInt32 31)).toInt32).toInt8.toInt32))), rfl⟩ (Nat.le_of_ble_eq_true rfl) (Nat.le_of_ble_eq_true rfl) dX9_put_46
-- Tape.put at 12
set_option maxHeartbeats 4000000 in
set_option maxRecDepth 100000 in
theorem c_X9_put12 {l : Launch} {G : Gc} (qt : Nat) (f9 : Int32) (kc : Nat) (bys : Nat) (tmo : Int32) (tfr : Int32) (tki : Int32) (tpl : Int32) (tva : Int32) (tco : Int64) (tke : Int32) (tfa : Int32) (tfp : Int32) (fb : Nat → Int32)  : Cv l yX9_put cX9_put 3 0 0 0 G [.ref qt, .int f9] [(qt, .inr (8, [.ref kc, .ref bys, .int 12, .int tmo, .int tfr, .int tki, .int tpl, .int tva, .long tco, .int tke, .int tfa, .int tfp])), (bys, eB G 940 fb)] (fun (u9 : va_W) => ∃ (gb : Nat → Int32), u9 = [(qt, .inr (8, [.ref kc, .ref bys, .int 16, .int tmo, .int tfr, .int tki, .int tpl, .int tva, .long tco, .int tke, .int tfa, .int tfp])), (bys, eB G 940 gb)]) := by
  refine Cv.of (by decide) (Nat.le_of_ble_eq_true rfl) ?_
  intro p e s m below meth c ls A B hw hl
  have C : CallFix p m c cX9_put 3 s _ gw "LanternState$Tape" := B.1
  have hl : lv_has ls 3 [(0, .ref qt), (1, .int f9)] := hl
  refine lv_bipush (v := 24) C.1 C.2.1 dX9_put_0 (by decide) ?_
  refine lv_istore_n (lv' := [(2, .int 24), (0, .ref qt), (1, .int f9)]) C.1 C.2.1 dX9_put_2 rfl hl (by decide) rfl (fun ls hl => ?_)
  refine lv_iload_n C.1 C.2.1 dX9_put_3 rfl (lv_at hl 0 rfl) ?_
  refine lv_if_lt (tgt := 46) C.1 C.2.1 dX9_put_4 (by decide) (fun h9 => absurd h9 (by decide)) (fun _ => ?_)
  refine lv_aload_n C.1 C.2.1 dX9_put_7 rfl (lv_at hl 1 rfl) ?_
  refine x_get C hw iwX9 8 rfl 0 rfl 2 (by decide) kw91 rfl dX9_put_8 ?_
  refine lv_sipush (v := 940) C.1 C.2.1 dX9_put_11 (by decide) ?_
  refine lv_icmp_ge (tgt := 40) C.1 C.2.1 dX9_put_14 (by decide) (fun h9 => absurd h9 (by decide)) (fun _ => ?_)
  refine lv_aload_n C.1 C.2.1 dX9_put_17 rfl (lv_at hl 1 rfl) ?_
  refine x_get C hw iwX9 8 rfl 0 rfl 1 (by decide) kw89 rfl dX9_put_18 ?_
  refine lv_aload_n C.1 C.2.1 dX9_put_21 rfl (lv_at hl 1 rfl) ?_
  refine x_get C hw iwX9 8 rfl 0 rfl 2 (by decide) kw91 rfl dX9_put_22 ?_
  refine lv_iload_n C.1 C.2.1 dX9_put_25 rfl (lv_at hl 2 rfl) ?_
  refine lv_iload_n C.1 C.2.1 dX9_put_26 rfl (lv_at hl 0 rfl) ?_
  refine lv_iushr (v := ((f9.toUInt32 >>> ((24 : Int32).toUInt32 &&& Int32.toUInt32 31)).toInt32)) C.1 C.2.1 dX9_put_27 rfl ?_
  refine lv_i2b (v := (((f9.toUInt32 >>> ((24 : Int32).toUInt32 &&& Int32.toUInt32 31)).toInt32).toInt8.toInt32)) C.1 C.2.1 dX9_put_28 rfl ?_
  refine x_bast (f' := (upd fb 12 (vp_nar .byte (((f9.toUInt32 >>> ((24 : Int32).toUInt32 &&& Int32.toUInt32 31)).toInt32).toInt8.toInt32)))) (w' := [(qt, .inr (8, [.ref kc, .ref bys, .int 12, .int tmo, .int tfr, .int tki, .int tpl, .int tva, .long tco, .int tke, .int tfa, .int tfp])), (bys, eB G 940 (upd fb 12 (vp_nar .byte (((f9.toUInt32 >>> ((24 : Int32).toUInt32 &&& Int32.toUInt32 31)).toInt32).toInt8.toInt32))))]) C hw 1 rfl (x_in rfl) rfl rfl dX9_put_29 (fun H locs hw => ?_)
  refine lv_aload_n C.1 C.2.1 dX9_put_30 rfl (lv_at hl 1 rfl) ?_
  refine lv_dup C.1 C.2.1 dX9_put_31 rfl ?_
  refine x_get C hw iwX9 8 rfl 0 rfl 2 (by decide) kw91 rfl dX9_put_32 ?_
  refine lv_iconst (v := 1) C.1 C.2.1 dX9_put_35 (by decide) ?_
  refine lv_iadd C.1 C.2.1 dX9_put_36 ?_
  refine x_topi (z := 13) (by decide) ?_
  refine x_put (w' := [(qt, .inr (8, [.ref kc, .ref bys, .int 13, .int tmo, .int tfr, .int tki, .int tpl, .int tva, .long tco, .int tke, .int tfa, .int tfp])), (bys, eB G 940 (upd fb 12 (vp_nar .byte (((f9.toUInt32 >>> ((24 : Int32).toUInt32 &&& Int32.toUInt32 31)).toInt32).toInt8.toInt32))))]) C hw iwX9 tyX9_ok nmX9 8 rfl 0 rfl 2 (by decide) kw91 rfl rfl rfl (Nat.le_of_ble_eq_true rfl) rfl dX9_put_37 (fun H locs hw => ?_)
  refine lv_iinc (v := 16) (lv' := [(2, .int 16), (0, .ref qt), (1, .int f9)]) C.1 C.2.1 dX9_put_40 hl (k := 0) rfl (by decide) (by decide) rfl (fun ls hl => ?_)
  refine lv_goto (tgt := 3) C.1 C.2.1 dX9_put_43 (by decide) ?_
  refine lv_iload_n C.1 C.2.1 dX9_put_3 rfl (lv_at hl 0 rfl) ?_
  refine lv_if_lt (tgt := 46) C.1 C.2.1 dX9_put_4 (by decide) (fun h9 => absurd h9 (by decide)) (fun _ => ?_)
  refine lv_aload_n C.1 C.2.1 dX9_put_7 rfl (lv_at hl 1 rfl) ?_
  refine x_get C hw iwX9 8 rfl 0 rfl 2 (by decide) kw91 rfl dX9_put_8 ?_
  refine lv_sipush (v := 940) C.1 C.2.1 dX9_put_11 (by decide) ?_
  refine lv_icmp_ge (tgt := 40) C.1 C.2.1 dX9_put_14 (by decide) (fun h9 => absurd h9 (by decide)) (fun _ => ?_)
  refine lv_aload_n C.1 C.2.1 dX9_put_17 rfl (lv_at hl 1 rfl) ?_
  refine x_get C hw iwX9 8 rfl 0 rfl 1 (by decide) kw89 rfl dX9_put_18 ?_
  refine lv_aload_n C.1 C.2.1 dX9_put_21 rfl (lv_at hl 1 rfl) ?_
  refine x_get C hw iwX9 8 rfl 0 rfl 2 (by decide) kw91 rfl dX9_put_22 ?_
  refine lv_iload_n C.1 C.2.1 dX9_put_25 rfl (lv_at hl 2 rfl) ?_
  refine lv_iload_n C.1 C.2.1 dX9_put_26 rfl (lv_at hl 0 rfl) ?_
  refine lv_iushr (v := ((f9.toUInt32 >>> ((16 : Int32).toUInt32 &&& Int32.toUInt32 31)).toInt32)) C.1 C.2.1 dX9_put_27 rfl ?_
  refine lv_i2b (v := (((f9.toUInt32 >>> ((16 : Int32).toUInt32 &&& Int32.toUInt32 31)).toInt32).toInt8.toInt32)) C.1 C.2.1 dX9_put_28 rfl ?_
  refine x_bast (f' := (upd (upd fb 12 (vp_nar .byte (((f9.toUInt32 >>> ((24 : Int32).toUInt32 &&& Int32.toUInt32 31)).toInt32).toInt8.toInt32))) 13 (vp_nar .byte (((f9.toUInt32 >>> ((16 : Int32).toUInt32 &&& Int32.toUInt32 31)).toInt32).toInt8.toInt32)))) (w' := [(qt, .inr (8, [.ref kc, .ref bys, .int 13, .int tmo, .int tfr, .int tki, .int tpl, .int tva, .long tco, .int tke, .int tfa, .int tfp])), (bys, eB G 940 (upd (upd fb 12 (vp_nar .byte (((f9.toUInt32 >>> ((24 : Int32).toUInt32 &&& Int32.toUInt32 31)).toInt32).toInt8.toInt32))) 13 (vp_nar .byte (((f9.toUInt32 >>> ((16 : Int32).toUInt32 &&& Int32.toUInt32 31)).toInt32).toInt8.toInt32))))]) C hw 1 rfl (x_in rfl) rfl rfl dX9_put_29 (fun H locs hw => ?_)
  refine lv_aload_n C.1 C.2.1 dX9_put_30 rfl (lv_at hl 1 rfl) ?_
  refine lv_dup C.1 C.2.1 dX9_put_31 rfl ?_
  refine x_get C hw iwX9 8 rfl 0 rfl 2 (by decide) kw91 rfl dX9_put_32 ?_
  refine lv_iconst (v := 1) C.1 C.2.1 dX9_put_35 (by decide) ?_
  refine lv_iadd C.1 C.2.1 dX9_put_36 ?_
  refine x_topi (z := 14) (by decide) ?_
  refine x_put (w' := [(qt, .inr (8, [.ref kc, .ref bys, .int 14, .int tmo, .int tfr, .int tki, .int tpl, .int tva, .long tco, .int tke, .int tfa, .int tfp])), (bys, eB G 940 (upd (upd fb 12 (vp_nar .byte (((f9.toUInt32 >>> ((24 : Int32).toUInt32 &&& Int32.toUInt32 31)).toInt32).toInt8.toInt32))) 13 (vp_nar .byte (((f9.toUInt32 >>> ((16 : Int32).toUInt32 &&& Int32.toUInt32 31)).toInt32).toInt8.toInt32))))]) C hw iwX9 tyX9_ok nmX9 8 rfl 0 rfl 2 (by decide) kw91 rfl rfl rfl (Nat.le_of_ble_eq_true rfl) rfl dX9_put_37 (fun H locs hw => ?_)
  refine lv_iinc (v := 8) (lv' := [(2, .int 8), (0, .ref qt), (1, .int f9)]) C.1 C.2.1 dX9_put_40 hl (k := 0) rfl (by decide) (by decide) rfl (fun ls hl => ?_)
  refine lv_goto (tgt := 3) C.1 C.2.1 dX9_put_43 (by decide) ?_
  refine lv_iload_n C.1 C.2.1 dX9_put_3 rfl (lv_at hl 0 rfl) ?_
  refine lv_if_lt (tgt := 46) C.1 C.2.1 dX9_put_4 (by decide) (fun h9 => absurd h9 (by decide)) (fun _ => ?_)
  refine lv_aload_n C.1 C.2.1 dX9_put_7 rfl (lv_at hl 1 rfl) ?_
  refine x_get C hw iwX9 8 rfl 0 rfl 2 (by decide) kw91 rfl dX9_put_8 ?_
  refine lv_sipush (v := 940) C.1 C.2.1 dX9_put_11 (by decide) ?_
  refine lv_icmp_ge (tgt := 40) C.1 C.2.1 dX9_put_14 (by decide) (fun h9 => absurd h9 (by decide)) (fun _ => ?_)
  refine lv_aload_n C.1 C.2.1 dX9_put_17 rfl (lv_at hl 1 rfl) ?_
  refine x_get C hw iwX9 8 rfl 0 rfl 1 (by decide) kw89 rfl dX9_put_18 ?_
  refine lv_aload_n C.1 C.2.1 dX9_put_21 rfl (lv_at hl 1 rfl) ?_
  refine x_get C hw iwX9 8 rfl 0 rfl 2 (by decide) kw91 rfl dX9_put_22 ?_
  refine lv_iload_n C.1 C.2.1 dX9_put_25 rfl (lv_at hl 2 rfl) ?_
  refine lv_iload_n C.1 C.2.1 dX9_put_26 rfl (lv_at hl 0 rfl) ?_
  refine lv_iushr (v := ((f9.toUInt32 >>> ((8 : Int32).toUInt32 &&& Int32.toUInt32 31)).toInt32)) C.1 C.2.1 dX9_put_27 rfl ?_
  refine lv_i2b (v := (((f9.toUInt32 >>> ((8 : Int32).toUInt32 &&& Int32.toUInt32 31)).toInt32).toInt8.toInt32)) C.1 C.2.1 dX9_put_28 rfl ?_
  refine x_bast (f' := (upd (upd (upd fb 12 (vp_nar .byte (((f9.toUInt32 >>> ((24 : Int32).toUInt32 &&& Int32.toUInt32 31)).toInt32).toInt8.toInt32))) 13 (vp_nar .byte (((f9.toUInt32 >>> ((16 : Int32).toUInt32 &&& Int32.toUInt32 31)).toInt32).toInt8.toInt32))) 14 (vp_nar .byte (((f9.toUInt32 >>> ((8 : Int32).toUInt32 &&& Int32.toUInt32 31)).toInt32).toInt8.toInt32)))) (w' := [(qt, .inr (8, [.ref kc, .ref bys, .int 14, .int tmo, .int tfr, .int tki, .int tpl, .int tva, .long tco, .int tke, .int tfa, .int tfp])), (bys, eB G 940 (upd (upd (upd fb 12 (vp_nar .byte (((f9.toUInt32 >>> ((24 : Int32).toUInt32 &&& Int32.toUInt32 31)).toInt32).toInt8.toInt32))) 13 (vp_nar .byte (((f9.toUInt32 >>> ((16 : Int32).toUInt32 &&& Int32.toUInt32 31)).toInt32).toInt8.toInt32))) 14 (vp_nar .byte (((f9.toUInt32 >>> ((8 : Int32).toUInt32 &&& Int32.toUInt32 31)).toInt32).toInt8.toInt32))))]) C hw 1 rfl (x_in rfl) rfl rfl dX9_put_29 (fun H locs hw => ?_)
  refine lv_aload_n C.1 C.2.1 dX9_put_30 rfl (lv_at hl 1 rfl) ?_
  refine lv_dup C.1 C.2.1 dX9_put_31 rfl ?_
  refine x_get C hw iwX9 8 rfl 0 rfl 2 (by decide) kw91 rfl dX9_put_32 ?_
  refine lv_iconst (v := 1) C.1 C.2.1 dX9_put_35 (by decide) ?_
  refine lv_iadd C.1 C.2.1 dX9_put_36 ?_
  refine x_topi (z := 15) (by decide) ?_
  refine x_put (w' := [(qt, .inr (8, [.ref kc, .ref bys, .int 15, .int tmo, .int tfr, .int tki, .int tpl, .int tva, .long tco, .int tke, .int tfa, .int tfp])), (bys, eB G 940 (upd (upd (upd fb 12 (vp_nar .byte (((f9.toUInt32 >>> ((24 : Int32).toUInt32 &&& Int32.toUInt32 31)).toInt32).toInt8.toInt32))) 13 (vp_nar .byte (((f9.toUInt32 >>> ((16 : Int32).toUInt32 &&& Int32.toUInt32 31)).toInt32).toInt8.toInt32))) 14 (vp_nar .byte (((f9.toUInt32 >>> ((8 : Int32).toUInt32 &&& Int32.toUInt32 31)).toInt32).toInt8.toInt32))))]) C hw iwX9 tyX9_ok nmX9 8 rfl 0 rfl 2 (by decide) kw91 rfl rfl rfl (Nat.le_of_ble_eq_true rfl) rfl dX9_put_37 (fun H locs hw => ?_)
  refine lv_iinc (v := 0) (lv' := [(2, .int 0), (0, .ref qt), (1, .int f9)]) C.1 C.2.1 dX9_put_40 hl (k := 0) rfl (by decide) (by decide) rfl (fun ls hl => ?_)
  refine lv_goto (tgt := 3) C.1 C.2.1 dX9_put_43 (by decide) ?_
  refine lv_iload_n C.1 C.2.1 dX9_put_3 rfl (lv_at hl 0 rfl) ?_
  refine lv_if_lt (tgt := 46) C.1 C.2.1 dX9_put_4 (by decide) (fun h9 => absurd h9 (by decide)) (fun _ => ?_)
  refine lv_aload_n C.1 C.2.1 dX9_put_7 rfl (lv_at hl 1 rfl) ?_
  refine x_get C hw iwX9 8 rfl 0 rfl 2 (by decide) kw91 rfl dX9_put_8 ?_
  refine lv_sipush (v := 940) C.1 C.2.1 dX9_put_11 (by decide) ?_
  refine lv_icmp_ge (tgt := 40) C.1 C.2.1 dX9_put_14 (by decide) (fun h9 => absurd h9 (by decide)) (fun _ => ?_)
  refine lv_aload_n C.1 C.2.1 dX9_put_17 rfl (lv_at hl 1 rfl) ?_
  refine x_get C hw iwX9 8 rfl 0 rfl 1 (by decide) kw89 rfl dX9_put_18 ?_
  refine lv_aload_n C.1 C.2.1 dX9_put_21 rfl (lv_at hl 1 rfl) ?_
  refine x_get C hw iwX9 8 rfl 0 rfl 2 (by decide) kw91 rfl dX9_put_22 ?_
  refine lv_iload_n C.1 C.2.1 dX9_put_25 rfl (lv_at hl 2 rfl) ?_
  refine lv_iload_n C.1 C.2.1 dX9_put_26 rfl (lv_at hl 0 rfl) ?_
  refine lv_iushr (v := ((f9.toUInt32 >>> ((0 : Int32).toUInt32 &&& Int32.toUInt32 31)).toInt32)) C.1 C.2.1 dX9_put_27 rfl ?_
  refine lv_i2b (v := (((f9.toUInt32 >>> ((0 : Int32).toUInt32 &&& Int32.toUInt32 31)).toInt32).toInt8.toInt32)) C.1 C.2.1 dX9_put_28 rfl ?_
  refine x_bast (f' := (upd (upd (upd (upd fb 12 (vp_nar .byte (((f9.toUInt32 >>> ((24 : Int32).toUInt32 &&& Int32.toUInt32 31)).toInt32).toInt8.toInt32))) 13 (vp_nar .byte (((f9.toUInt32 >>> ((16 : Int32).toUInt32 &&& Int32.toUInt32 31)).toInt32).toInt8.toInt32))) 14 (vp_nar .byte (((f9.toUInt32 >>> ((8 : Int32).toUInt32 &&& Int32.toUInt32 31)).toInt32).toInt8.toInt32))) 15 (vp_nar .byte (((f9.toUInt32 >>> ((0 : Int32).toUInt32 &&& Int32.toUInt32 31)).toInt32).toInt8.toInt32)))) (w' := [(qt, .inr (8, [.ref kc, .ref bys, .int 15, .int tmo, .int tfr, .int tki, .int tpl, .int tva, .long tco, .int tke, .int tfa, .int tfp])), (bys, eB G 940 (upd (upd (upd (upd fb 12 (vp_nar .byte (((f9.toUInt32 >>> ((24 : Int32).toUInt32 &&& Int32.toUInt32 31)).toInt32).toInt8.toInt32))) 13 (vp_nar .byte (((f9.toUInt32 >>> ((16 : Int32).toUInt32 &&& Int32.toUInt32 31)).toInt32).toInt8.toInt32))) 14 (vp_nar .byte (((f9.toUInt32 >>> ((8 : Int32).toUInt32 &&& Int32.toUInt32 31)).toInt32).toInt8.toInt32))) 15 (vp_nar .byte (((f9.toUInt32 >>> ((0 : Int32).toUInt32 &&& Int32.toUInt32 31)).toInt32).toInt8.toInt32))))]) C hw 1 rfl (x_in rfl) rfl rfl dX9_put_29 (fun H locs hw => ?_)
  refine lv_aload_n C.1 C.2.1 dX9_put_30 rfl (lv_at hl 1 rfl) ?_
  refine lv_dup C.1 C.2.1 dX9_put_31 rfl ?_
  refine x_get C hw iwX9 8 rfl 0 rfl 2 (by decide) kw91 rfl dX9_put_32 ?_
  refine lv_iconst (v := 1) C.1 C.2.1 dX9_put_35 (by decide) ?_
  refine lv_iadd C.1 C.2.1 dX9_put_36 ?_
  refine x_topi (z := 16) (by decide) ?_
  refine x_put (w' := [(qt, .inr (8, [.ref kc, .ref bys, .int 16, .int tmo, .int tfr, .int tki, .int tpl, .int tva, .long tco, .int tke, .int tfa, .int tfp])), (bys, eB G 940 (upd (upd (upd (upd fb 12 (vp_nar .byte (((f9.toUInt32 >>> ((24 : Int32).toUInt32 &&& Int32.toUInt32 31)).toInt32).toInt8.toInt32))) 13 (vp_nar .byte (((f9.toUInt32 >>> ((16 : Int32).toUInt32 &&& Int32.toUInt32 31)).toInt32).toInt8.toInt32))) 14 (vp_nar .byte (((f9.toUInt32 >>> ((8 : Int32).toUInt32 &&& Int32.toUInt32 31)).toInt32).toInt8.toInt32))) 15 (vp_nar .byte (((f9.toUInt32 >>> ((0 : Int32).toUInt32 &&& Int32.toUInt32 31)).toInt32).toInt8.toInt32))))]) C hw iwX9 tyX9_ok nmX9 8 rfl 0 rfl 2 (by decide) kw91 rfl rfl rfl (Nat.le_of_ble_eq_true rfl) rfl dX9_put_37 (fun H locs hw => ?_)
  refine lv_iinc (v := (-8)) (lv' := [(2, .int (-8)), (0, .ref qt), (1, .int f9)]) C.1 C.2.1 dX9_put_40 hl (k := 0) rfl (by decide) (by decide) rfl (fun ls hl => ?_)
  refine lv_goto (tgt := 3) C.1 C.2.1 dX9_put_43 (by decide) ?_
  refine lv_iload_n C.1 C.2.1 dX9_put_3 rfl (lv_at hl 0 rfl) ?_
  refine lv_if_lt (tgt := 46) C.1 C.2.1 dX9_put_4 (by decide) (fun _ => ?_) (fun h9 => absurd (by decide) h9)
  exact x_retv B hw ⟨(upd (upd (upd (upd fb 12 (vp_nar .byte (((f9.toUInt32 >>> ((24 : Int32).toUInt32 &&& Int32.toUInt32 31)).toInt32).toInt8.toInt32))) 13 (vp_nar .byte (((f9.toUInt32 >>> ((16 : Int32).toUInt32 &&& Int32.toUInt32 31)).toInt32).toInt8.toInt32))) 14 (vp_nar .byte (((f9.toUInt32 >>> ((8 : Int32).toUInt32 &&& Int32.toUInt32 31)).toInt32).toInt8.toInt32))) 15 (vp_nar .byte (((f9.toUInt32 >>> ((0 : Int32).toUInt32 &&& Int32.toUInt32 31)).toInt32).toInt8.toInt32))), rfl⟩ (Nat.le_of_ble_eq_true rfl) (Nat.le_of_ble_eq_true rfl) dX9_put_46
-- Tape.put at 16
set_option maxHeartbeats 4000000 in
set_option maxRecDepth 100000 in
theorem c_X9_put16 {l : Launch} {G : Gc} (qt : Nat) (f9 : Int32) (kc : Nat) (bys : Nat) (tmo : Int32) (tfr : Int32) (tki : Int32) (tpl : Int32) (tva : Int32) (tco : Int64) (tke : Int32) (tfa : Int32) (tfp : Int32) (fb : Nat → Int32)  : Cv l yX9_put cX9_put 3 0 0 0 G [.ref qt, .int f9] [(qt, .inr (8, [.ref kc, .ref bys, .int 16, .int tmo, .int tfr, .int tki, .int tpl, .int tva, .long tco, .int tke, .int tfa, .int tfp])), (bys, eB G 940 fb)] (fun (u9 : va_W) => ∃ (gb : Nat → Int32), u9 = [(qt, .inr (8, [.ref kc, .ref bys, .int 20, .int tmo, .int tfr, .int tki, .int tpl, .int tva, .long tco, .int tke, .int tfa, .int tfp])), (bys, eB G 940 gb)]) := by
  refine Cv.of (by decide) (Nat.le_of_ble_eq_true rfl) ?_
  intro p e s m below meth c ls A B hw hl
  have C : CallFix p m c cX9_put 3 s _ gw "LanternState$Tape" := B.1
  have hl : lv_has ls 3 [(0, .ref qt), (1, .int f9)] := hl
  refine lv_bipush (v := 24) C.1 C.2.1 dX9_put_0 (by decide) ?_
  refine lv_istore_n (lv' := [(2, .int 24), (0, .ref qt), (1, .int f9)]) C.1 C.2.1 dX9_put_2 rfl hl (by decide) rfl (fun ls hl => ?_)
  refine lv_iload_n C.1 C.2.1 dX9_put_3 rfl (lv_at hl 0 rfl) ?_
  refine lv_if_lt (tgt := 46) C.1 C.2.1 dX9_put_4 (by decide) (fun h9 => absurd h9 (by decide)) (fun _ => ?_)
  refine lv_aload_n C.1 C.2.1 dX9_put_7 rfl (lv_at hl 1 rfl) ?_
  refine x_get C hw iwX9 8 rfl 0 rfl 2 (by decide) kw91 rfl dX9_put_8 ?_
  refine lv_sipush (v := 940) C.1 C.2.1 dX9_put_11 (by decide) ?_
  refine lv_icmp_ge (tgt := 40) C.1 C.2.1 dX9_put_14 (by decide) (fun h9 => absurd h9 (by decide)) (fun _ => ?_)
  refine lv_aload_n C.1 C.2.1 dX9_put_17 rfl (lv_at hl 1 rfl) ?_
  refine x_get C hw iwX9 8 rfl 0 rfl 1 (by decide) kw89 rfl dX9_put_18 ?_
  refine lv_aload_n C.1 C.2.1 dX9_put_21 rfl (lv_at hl 1 rfl) ?_
  refine x_get C hw iwX9 8 rfl 0 rfl 2 (by decide) kw91 rfl dX9_put_22 ?_
  refine lv_iload_n C.1 C.2.1 dX9_put_25 rfl (lv_at hl 2 rfl) ?_
  refine lv_iload_n C.1 C.2.1 dX9_put_26 rfl (lv_at hl 0 rfl) ?_
  refine lv_iushr (v := ((f9.toUInt32 >>> ((24 : Int32).toUInt32 &&& Int32.toUInt32 31)).toInt32)) C.1 C.2.1 dX9_put_27 rfl ?_
  refine lv_i2b (v := (((f9.toUInt32 >>> ((24 : Int32).toUInt32 &&& Int32.toUInt32 31)).toInt32).toInt8.toInt32)) C.1 C.2.1 dX9_put_28 rfl ?_
  refine x_bast (f' := (upd fb 16 (vp_nar .byte (((f9.toUInt32 >>> ((24 : Int32).toUInt32 &&& Int32.toUInt32 31)).toInt32).toInt8.toInt32)))) (w' := [(qt, .inr (8, [.ref kc, .ref bys, .int 16, .int tmo, .int tfr, .int tki, .int tpl, .int tva, .long tco, .int tke, .int tfa, .int tfp])), (bys, eB G 940 (upd fb 16 (vp_nar .byte (((f9.toUInt32 >>> ((24 : Int32).toUInt32 &&& Int32.toUInt32 31)).toInt32).toInt8.toInt32))))]) C hw 1 rfl (x_in rfl) rfl rfl dX9_put_29 (fun H locs hw => ?_)
  refine lv_aload_n C.1 C.2.1 dX9_put_30 rfl (lv_at hl 1 rfl) ?_
  refine lv_dup C.1 C.2.1 dX9_put_31 rfl ?_
  refine x_get C hw iwX9 8 rfl 0 rfl 2 (by decide) kw91 rfl dX9_put_32 ?_
  refine lv_iconst (v := 1) C.1 C.2.1 dX9_put_35 (by decide) ?_
  refine lv_iadd C.1 C.2.1 dX9_put_36 ?_
  refine x_topi (z := 17) (by decide) ?_
  refine x_put (w' := [(qt, .inr (8, [.ref kc, .ref bys, .int 17, .int tmo, .int tfr, .int tki, .int tpl, .int tva, .long tco, .int tke, .int tfa, .int tfp])), (bys, eB G 940 (upd fb 16 (vp_nar .byte (((f9.toUInt32 >>> ((24 : Int32).toUInt32 &&& Int32.toUInt32 31)).toInt32).toInt8.toInt32))))]) C hw iwX9 tyX9_ok nmX9 8 rfl 0 rfl 2 (by decide) kw91 rfl rfl rfl (Nat.le_of_ble_eq_true rfl) rfl dX9_put_37 (fun H locs hw => ?_)
  refine lv_iinc (v := 16) (lv' := [(2, .int 16), (0, .ref qt), (1, .int f9)]) C.1 C.2.1 dX9_put_40 hl (k := 0) rfl (by decide) (by decide) rfl (fun ls hl => ?_)
  refine lv_goto (tgt := 3) C.1 C.2.1 dX9_put_43 (by decide) ?_
  refine lv_iload_n C.1 C.2.1 dX9_put_3 rfl (lv_at hl 0 rfl) ?_
  refine lv_if_lt (tgt := 46) C.1 C.2.1 dX9_put_4 (by decide) (fun h9 => absurd h9 (by decide)) (fun _ => ?_)
  refine lv_aload_n C.1 C.2.1 dX9_put_7 rfl (lv_at hl 1 rfl) ?_
  refine x_get C hw iwX9 8 rfl 0 rfl 2 (by decide) kw91 rfl dX9_put_8 ?_
  refine lv_sipush (v := 940) C.1 C.2.1 dX9_put_11 (by decide) ?_
  refine lv_icmp_ge (tgt := 40) C.1 C.2.1 dX9_put_14 (by decide) (fun h9 => absurd h9 (by decide)) (fun _ => ?_)
  refine lv_aload_n C.1 C.2.1 dX9_put_17 rfl (lv_at hl 1 rfl) ?_
  refine x_get C hw iwX9 8 rfl 0 rfl 1 (by decide) kw89 rfl dX9_put_18 ?_
  refine lv_aload_n C.1 C.2.1 dX9_put_21 rfl (lv_at hl 1 rfl) ?_
  refine x_get C hw iwX9 8 rfl 0 rfl 2 (by decide) kw91 rfl dX9_put_22 ?_
  refine lv_iload_n C.1 C.2.1 dX9_put_25 rfl (lv_at hl 2 rfl) ?_
  refine lv_iload_n C.1 C.2.1 dX9_put_26 rfl (lv_at hl 0 rfl) ?_
  refine lv_iushr (v := ((f9.toUInt32 >>> ((16 : Int32).toUInt32 &&& Int32.toUInt32 31)).toInt32)) C.1 C.2.1 dX9_put_27 rfl ?_
  refine lv_i2b (v := (((f9.toUInt32 >>> ((16 : Int32).toUInt32 &&& Int32.toUInt32 31)).toInt32).toInt8.toInt32)) C.1 C.2.1 dX9_put_28 rfl ?_
  refine x_bast (f' := (upd (upd fb 16 (vp_nar .byte (((f9.toUInt32 >>> ((24 : Int32).toUInt32 &&& Int32.toUInt32 31)).toInt32).toInt8.toInt32))) 17 (vp_nar .byte (((f9.toUInt32 >>> ((16 : Int32).toUInt32 &&& Int32.toUInt32 31)).toInt32).toInt8.toInt32)))) (w' := [(qt, .inr (8, [.ref kc, .ref bys, .int 17, .int tmo, .int tfr, .int tki, .int tpl, .int tva, .long tco, .int tke, .int tfa, .int tfp])), (bys, eB G 940 (upd (upd fb 16 (vp_nar .byte (((f9.toUInt32 >>> ((24 : Int32).toUInt32 &&& Int32.toUInt32 31)).toInt32).toInt8.toInt32))) 17 (vp_nar .byte (((f9.toUInt32 >>> ((16 : Int32).toUInt32 &&& Int32.toUInt32 31)).toInt32).toInt8.toInt32))))]) C hw 1 rfl (x_in rfl) rfl rfl dX9_put_29 (fun H locs hw => ?_)
  refine lv_aload_n C.1 C.2.1 dX9_put_30 rfl (lv_at hl 1 rfl) ?_
  refine lv_dup C.1 C.2.1 dX9_put_31 rfl ?_
  refine x_get C hw iwX9 8 rfl 0 rfl 2 (by decide) kw91 rfl dX9_put_32 ?_
  refine lv_iconst (v := 1) C.1 C.2.1 dX9_put_35 (by decide) ?_
  refine lv_iadd C.1 C.2.1 dX9_put_36 ?_
  refine x_topi (z := 18) (by decide) ?_
  refine x_put (w' := [(qt, .inr (8, [.ref kc, .ref bys, .int 18, .int tmo, .int tfr, .int tki, .int tpl, .int tva, .long tco, .int tke, .int tfa, .int tfp])), (bys, eB G 940 (upd (upd fb 16 (vp_nar .byte (((f9.toUInt32 >>> ((24 : Int32).toUInt32 &&& Int32.toUInt32 31)).toInt32).toInt8.toInt32))) 17 (vp_nar .byte (((f9.toUInt32 >>> ((16 : Int32).toUInt32 &&& Int32.toUInt32 31)).toInt32).toInt8.toInt32))))]) C hw iwX9 tyX9_ok nmX9 8 rfl 0 rfl 2 (by decide) kw91 rfl rfl rfl (Nat.le_of_ble_eq_true rfl) rfl dX9_put_37 (fun H locs hw => ?_)
  refine lv_iinc (v := 8) (lv' := [(2, .int 8), (0, .ref qt), (1, .int f9)]) C.1 C.2.1 dX9_put_40 hl (k := 0) rfl (by decide) (by decide) rfl (fun ls hl => ?_)
  refine lv_goto (tgt := 3) C.1 C.2.1 dX9_put_43 (by decide) ?_
  refine lv_iload_n C.1 C.2.1 dX9_put_3 rfl (lv_at hl 0 rfl) ?_
  refine lv_if_lt (tgt := 46) C.1 C.2.1 dX9_put_4 (by decide) (fun h9 => absurd h9 (by decide)) (fun _ => ?_)
  refine lv_aload_n C.1 C.2.1 dX9_put_7 rfl (lv_at hl 1 rfl) ?_
  refine x_get C hw iwX9 8 rfl 0 rfl 2 (by decide) kw91 rfl dX9_put_8 ?_
  refine lv_sipush (v := 940) C.1 C.2.1 dX9_put_11 (by decide) ?_
  refine lv_icmp_ge (tgt := 40) C.1 C.2.1 dX9_put_14 (by decide) (fun h9 => absurd h9 (by decide)) (fun _ => ?_)
  refine lv_aload_n C.1 C.2.1 dX9_put_17 rfl (lv_at hl 1 rfl) ?_
  refine x_get C hw iwX9 8 rfl 0 rfl 1 (by decide) kw89 rfl dX9_put_18 ?_
  refine lv_aload_n C.1 C.2.1 dX9_put_21 rfl (lv_at hl 1 rfl) ?_
  refine x_get C hw iwX9 8 rfl 0 rfl 2 (by decide) kw91 rfl dX9_put_22 ?_
  refine lv_iload_n C.1 C.2.1 dX9_put_25 rfl (lv_at hl 2 rfl) ?_
  refine lv_iload_n C.1 C.2.1 dX9_put_26 rfl (lv_at hl 0 rfl) ?_
  refine lv_iushr (v := ((f9.toUInt32 >>> ((8 : Int32).toUInt32 &&& Int32.toUInt32 31)).toInt32)) C.1 C.2.1 dX9_put_27 rfl ?_
  refine lv_i2b (v := (((f9.toUInt32 >>> ((8 : Int32).toUInt32 &&& Int32.toUInt32 31)).toInt32).toInt8.toInt32)) C.1 C.2.1 dX9_put_28 rfl ?_
  refine x_bast (f' := (upd (upd (upd fb 16 (vp_nar .byte (((f9.toUInt32 >>> ((24 : Int32).toUInt32 &&& Int32.toUInt32 31)).toInt32).toInt8.toInt32))) 17 (vp_nar .byte (((f9.toUInt32 >>> ((16 : Int32).toUInt32 &&& Int32.toUInt32 31)).toInt32).toInt8.toInt32))) 18 (vp_nar .byte (((f9.toUInt32 >>> ((8 : Int32).toUInt32 &&& Int32.toUInt32 31)).toInt32).toInt8.toInt32)))) (w' := [(qt, .inr (8, [.ref kc, .ref bys, .int 18, .int tmo, .int tfr, .int tki, .int tpl, .int tva, .long tco, .int tke, .int tfa, .int tfp])), (bys, eB G 940 (upd (upd (upd fb 16 (vp_nar .byte (((f9.toUInt32 >>> ((24 : Int32).toUInt32 &&& Int32.toUInt32 31)).toInt32).toInt8.toInt32))) 17 (vp_nar .byte (((f9.toUInt32 >>> ((16 : Int32).toUInt32 &&& Int32.toUInt32 31)).toInt32).toInt8.toInt32))) 18 (vp_nar .byte (((f9.toUInt32 >>> ((8 : Int32).toUInt32 &&& Int32.toUInt32 31)).toInt32).toInt8.toInt32))))]) C hw 1 rfl (x_in rfl) rfl rfl dX9_put_29 (fun H locs hw => ?_)
  refine lv_aload_n C.1 C.2.1 dX9_put_30 rfl (lv_at hl 1 rfl) ?_
  refine lv_dup C.1 C.2.1 dX9_put_31 rfl ?_
  refine x_get C hw iwX9 8 rfl 0 rfl 2 (by decide) kw91 rfl dX9_put_32 ?_
  refine lv_iconst (v := 1) C.1 C.2.1 dX9_put_35 (by decide) ?_
  refine lv_iadd C.1 C.2.1 dX9_put_36 ?_
  refine x_topi (z := 19) (by decide) ?_
  refine x_put (w' := [(qt, .inr (8, [.ref kc, .ref bys, .int 19, .int tmo, .int tfr, .int tki, .int tpl, .int tva, .long tco, .int tke, .int tfa, .int tfp])), (bys, eB G 940 (upd (upd (upd fb 16 (vp_nar .byte (((f9.toUInt32 >>> ((24 : Int32).toUInt32 &&& Int32.toUInt32 31)).toInt32).toInt8.toInt32))) 17 (vp_nar .byte (((f9.toUInt32 >>> ((16 : Int32).toUInt32 &&& Int32.toUInt32 31)).toInt32).toInt8.toInt32))) 18 (vp_nar .byte (((f9.toUInt32 >>> ((8 : Int32).toUInt32 &&& Int32.toUInt32 31)).toInt32).toInt8.toInt32))))]) C hw iwX9 tyX9_ok nmX9 8 rfl 0 rfl 2 (by decide) kw91 rfl rfl rfl (Nat.le_of_ble_eq_true rfl) rfl dX9_put_37 (fun H locs hw => ?_)
  refine lv_iinc (v := 0) (lv' := [(2, .int 0), (0, .ref qt), (1, .int f9)]) C.1 C.2.1 dX9_put_40 hl (k := 0) rfl (by decide) (by decide) rfl (fun ls hl => ?_)
  refine lv_goto (tgt := 3) C.1 C.2.1 dX9_put_43 (by decide) ?_
  refine lv_iload_n C.1 C.2.1 dX9_put_3 rfl (lv_at hl 0 rfl) ?_
  refine lv_if_lt (tgt := 46) C.1 C.2.1 dX9_put_4 (by decide) (fun h9 => absurd h9 (by decide)) (fun _ => ?_)
  refine lv_aload_n C.1 C.2.1 dX9_put_7 rfl (lv_at hl 1 rfl) ?_
  refine x_get C hw iwX9 8 rfl 0 rfl 2 (by decide) kw91 rfl dX9_put_8 ?_
  refine lv_sipush (v := 940) C.1 C.2.1 dX9_put_11 (by decide) ?_
  refine lv_icmp_ge (tgt := 40) C.1 C.2.1 dX9_put_14 (by decide) (fun h9 => absurd h9 (by decide)) (fun _ => ?_)
  refine lv_aload_n C.1 C.2.1 dX9_put_17 rfl (lv_at hl 1 rfl) ?_
  refine x_get C hw iwX9 8 rfl 0 rfl 1 (by decide) kw89 rfl dX9_put_18 ?_
  refine lv_aload_n C.1 C.2.1 dX9_put_21 rfl (lv_at hl 1 rfl) ?_
  refine x_get C hw iwX9 8 rfl 0 rfl 2 (by decide) kw91 rfl dX9_put_22 ?_
  refine lv_iload_n C.1 C.2.1 dX9_put_25 rfl (lv_at hl 2 rfl) ?_
  refine lv_iload_n C.1 C.2.1 dX9_put_26 rfl (lv_at hl 0 rfl) ?_
  refine lv_iushr (v := ((f9.toUInt32 >>> ((0 : Int32).toUInt32 &&& Int32.toUInt32 31)).toInt32)) C.1 C.2.1 dX9_put_27 rfl ?_
  refine lv_i2b (v := (((f9.toUInt32 >>> ((0 : Int32).toUInt32 &&& Int32.toUInt32 31)).toInt32).toInt8.toInt32)) C.1 C.2.1 dX9_put_28 rfl ?_
  refine x_bast (f' := (upd (upd (upd (upd fb 16 (vp_nar .byte (((f9.toUInt32 >>> ((24 : Int32).toUInt32 &&& Int32.toUInt32 31)).toInt32).toInt8.toInt32))) 17 (vp_nar .byte (((f9.toUInt32 >>> ((16 : Int32).toUInt32 &&& Int32.toUInt32 31)).toInt32).toInt8.toInt32))) 18 (vp_nar .byte (((f9.toUInt32 >>> ((8 : Int32).toUInt32 &&& Int32.toUInt32 31)).toInt32).toInt8.toInt32))) 19 (vp_nar .byte (((f9.toUInt32 >>> ((0 : Int32).toUInt32 &&& Int32.toUInt32 31)).toInt32).toInt8.toInt32)))) (w' := [(qt, .inr (8, [.ref kc, .ref bys, .int 19, .int tmo, .int tfr, .int tki, .int tpl, .int tva, .long tco, .int tke, .int tfa, .int tfp])), (bys, eB G 940 (upd (upd (upd (upd fb 16 (vp_nar .byte (((f9.toUInt32 >>> ((24 : Int32).toUInt32 &&& Int32.toUInt32 31)).toInt32).toInt8.toInt32))) 17 (vp_nar .byte (((f9.toUInt32 >>> ((16 : Int32).toUInt32 &&& Int32.toUInt32 31)).toInt32).toInt8.toInt32))) 18 (vp_nar .byte (((f9.toUInt32 >>> ((8 : Int32).toUInt32 &&& Int32.toUInt32 31)).toInt32).toInt8.toInt32))) 19 (vp_nar .byte (((f9.toUInt32 >>> ((0 : Int32).toUInt32 &&& Int32.toUInt32 31)).toInt32).toInt8.toInt32))))]) C hw 1 rfl (x_in rfl) rfl rfl dX9_put_29 (fun H locs hw => ?_)
  refine lv_aload_n C.1 C.2.1 dX9_put_30 rfl (lv_at hl 1 rfl) ?_
  refine lv_dup C.1 C.2.1 dX9_put_31 rfl ?_
  refine x_get C hw iwX9 8 rfl 0 rfl 2 (by decide) kw91 rfl dX9_put_32 ?_
  refine lv_iconst (v := 1) C.1 C.2.1 dX9_put_35 (by decide) ?_
  refine lv_iadd C.1 C.2.1 dX9_put_36 ?_
  refine x_topi (z := 20) (by decide) ?_
  refine x_put (w' := [(qt, .inr (8, [.ref kc, .ref bys, .int 20, .int tmo, .int tfr, .int tki, .int tpl, .int tva, .long tco, .int tke, .int tfa, .int tfp])), (bys, eB G 940 (upd (upd (upd (upd fb 16 (vp_nar .byte (((f9.toUInt32 >>> ((24 : Int32).toUInt32 &&& Int32.toUInt32 31)).toInt32).toInt8.toInt32))) 17 (vp_nar .byte (((f9.toUInt32 >>> ((16 : Int32).toUInt32 &&& Int32.toUInt32 31)).toInt32).toInt8.toInt32))) 18 (vp_nar .byte (((f9.toUInt32 >>> ((8 : Int32).toUInt32 &&& Int32.toUInt32 31)).toInt32).toInt8.toInt32))) 19 (vp_nar .byte (((f9.toUInt32 >>> ((0 : Int32).toUInt32 &&& Int32.toUInt32 31)).toInt32).toInt8.toInt32))))]) C hw iwX9 tyX9_ok nmX9 8 rfl 0 rfl 2 (by decide) kw91 rfl rfl rfl (Nat.le_of_ble_eq_true rfl) rfl dX9_put_37 (fun H locs hw => ?_)
  refine lv_iinc (v := (-8)) (lv' := [(2, .int (-8)), (0, .ref qt), (1, .int f9)]) C.1 C.2.1 dX9_put_40 hl (k := 0) rfl (by decide) (by decide) rfl (fun ls hl => ?_)
  refine lv_goto (tgt := 3) C.1 C.2.1 dX9_put_43 (by decide) ?_
  refine lv_iload_n C.1 C.2.1 dX9_put_3 rfl (lv_at hl 0 rfl) ?_
  refine lv_if_lt (tgt := 46) C.1 C.2.1 dX9_put_4 (by decide) (fun _ => ?_) (fun h9 => absurd (by decide) h9)
  exact x_retv B hw ⟨(upd (upd (upd (upd fb 16 (vp_nar .byte (((f9.toUInt32 >>> ((24 : Int32).toUInt32 &&& Int32.toUInt32 31)).toInt32).toInt8.toInt32))) 17 (vp_nar .byte (((f9.toUInt32 >>> ((16 : Int32).toUInt32 &&& Int32.toUInt32 31)).toInt32).toInt8.toInt32))) 18 (vp_nar .byte (((f9.toUInt32 >>> ((8 : Int32).toUInt32 &&& Int32.toUInt32 31)).toInt32).toInt8.toInt32))) 19 (vp_nar .byte (((f9.toUInt32 >>> ((0 : Int32).toUInt32 &&& Int32.toUInt32 31)).toInt32).toInt8.toInt32))), rfl⟩ (Nat.le_of_ble_eq_true rfl) (Nat.le_of_ble_eq_true rfl) dX9_put_46
