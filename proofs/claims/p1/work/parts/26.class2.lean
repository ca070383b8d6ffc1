theorem dX10_closeText_0 : decode cX10_closeText 0 = .ok (.aload_n 0, 1) := by decide +kernel
theorem dX10_closeText_1 : decode cX10_closeText 1 = .ok (.aload_n 0, 1) := by decide +kernel
theorem dX10_closeText_2 : decode cX10_closeText 2 = .ok (.getfield 10, 3) := by decide +kernel
theorem dX10_closeText_5 : decode cX10_closeText 5 = .ok (.getfield 354, 3) := by decide +kernel
theorem dX10_closeText_8 : decode cX10_closeText 8 = .ok (.putfield 129, 3) := by decide +kernel
theorem dX10_closeText_11 : decode cX10_closeText 11 = .ok (.aload_n 0, 1) := by decide +kernel
theorem dX10_closeText_12 : decode cX10_closeText 12 = .ok (.getfield 10, 3) := by decide +kernel
theorem dX10_closeText_15 : decode cX10_closeText 15 = .ok (.iconst 0, 1) := by decide +kernel
theorem dX10_closeText_16 : decode cX10_closeText 16 = .ok (.putfield 92, 3) := by decide +kernel
theorem dX10_closeText_19 : decode cX10_closeText 19 = .ok (.return_, 1) := by decide +kernel
set_option maxHeartbeats 4000000 in
set_option maxRecDepth 100000 in
theorem c_X10_closeText {l : Launch} {G : Gc} (qx : Nat) (qt : Nat) (qs : Nat) (qd : Nat) (qa : Nat) (qb : Nat) (qh : Nat) (qr : Nat) (qe : Nat) (qp : Nat) (qf : Nat) (qn : Nat) (qi : Nat) (qo : Nat) (lf9 : Int32) (kc : Nat) (bys : Nat) (tsz : Int32) (tmo : Int32) (tfr : Int32) (tki : Int32) (tpl : Int32) (tva : Int32) (tco : Int64) (tke : Int32) (tfa : Int32) (tfp : Int32)  : Cv l yX10_closeText cX10_closeText 1 0 0 0 G [.ref qx] [(qx, .inr (9, [.ref qt, .ref qs, .ref qd, .ref qa, .ref qb, .ref qh, .ref qr, .ref qe, .ref qp, .ref qf, .ref qn, .ref qi, .ref qo, .int 0, .int lf9, .int (-1), .int (-1)])), (qt, .inr (8, [.ref kc, .ref bys, .int tsz, .int tmo, .int tfr, .int tki, .int tpl, .int tva, .long tco, .int tke, .int tfa, .int tfp]))] (fun (u9 : va_W) => u9 = [(qx, .inr (9, [.ref qt, .ref qs, .ref qd, .ref qa, .ref qb, .ref qh, .ref qr, .ref qe, .ref qp, .ref qf, .ref qn, .ref qi, .ref qo, .int 0, .int tfa, .int (-1), .int (-1)])), (qt, .inr (8, [.ref kc, .ref bys, .int 0, .int tmo, .int tfr, .int tki, .int tpl, .int tva, .long tco, .int tke, .int tfa, .int tfp]))]) := by
  refine Cv.of (by decide) (Nat.le_of_ble_eq_true rfl) ?_
  intro p e s m below meth c ls A B hw hl
  have C : CallFix p m c cX10_closeText 1 s _ gw "LanternState" := B.1
  have hl : lv_has ls 1 [(0, .ref qx)] := hl
  refine lv_aload_n C.1 C.2.1 dX10_closeText_0 rfl (lv_at hl 0 rfl) ?_
  refine lv_aload_n C.1 C.2.1 dX10_closeText_1 rfl (lv_at hl 0 rfl) ?_
  refine x_get C hw iwX10 9 rfl 0 rfl 0 (by decide) kw446 rfl dX10_closeText_2 ?_
  refine x_get C hw iwX9 8 rfl 1 rfl 10 (by decide) kw111 rfl dX10_closeText_5 ?_
  refine x_put (w' := [(qx, .inr (9, [.ref qt, .ref qs, .ref qd, .ref qa, .ref qb, .ref qh, .ref qr, .ref qe, .ref qp, .ref qf, .ref qn, .ref qi, .ref qo, .int 0, .int tfa, .int (-1), .int (-1)])), (qt, .inr (8, [.ref kc, .ref bys, .int tsz, .int tmo, .int tfr, .int tki, .int tpl, .int tva, .long tco, .int tke, .int tfa, .int tfp]))]) C hw iwX10 tyX10_ok nmX10 9 rfl 0 rfl 14 (by decide) kw460 rfl rfl rfl (Nat.le_of_ble_eq_true rfl) rfl dX10_closeText_8 (fun H locs hw => ?_)
  refine lv_aload_n C.1 C.2.1 dX10_closeText_11 rfl (lv_at hl 0 rfl) ?_
  refine x_get C hw iwX10 9 rfl 0 rfl 0 (by decide) kw446 rfl dX10_closeText_12 ?_
  refine lv_iconst (v := 0) C.1 C.2.1 dX10_closeText_15 (by decide) ?_
  refine x_put (w' := [(qx, .inr (9, [.ref qt, .ref qs, .ref qd, .ref qa, .ref qb, .ref qh, .ref qr, .ref qe, .ref qp, .ref qf, .ref qn, .ref qi, .ref qo, .int 0, .int tfa, .int (-1), .int (-1)])), (qt, .inr (8, [.ref kc, .ref bys, .int 0, .int tmo, .int tfr, .int tki, .int tpl, .int tva, .long tco, .int tke, .int tfa, .int tfp]))]) C hw iwX9 tyX9_ok nmX9 8 rfl 1 rfl 2 (by decide) kw90 rfl rfl rfl (Nat.le_of_ble_eq_true rfl) rfl dX10_closeText_16 (fun H locs hw => ?_)
  exact x_retv B hw rfl (Nat.le_of_ble_eq_true rfl) (Nat.le_of_ble_eq_true rfl) dX10_closeText_19
theorem dX5_clear_0 : decode cX5_clear 0 = .ok (.aload_n 0, 1) := by decide +kernel
theorem dX5_clear_1 : decode cX5_clear 1 = .ok (.iconst 0, 1) := by decide +kernel
theorem dX5_clear_2 : decode cX5_clear 2 = .ok (.putfield 47, 3) := by decide +kernel
theorem dX5_clear_5 : decode cX5_clear 5 = .ok (.aload_n 0, 1) := by decide +kernel
theorem dX5_clear_6 : decode cX5_clear 6 = .ok (.iconst 0, 1) := by decide +kernel
theorem dX5_clear_7 : decode cX5_clear 7 = .ok (.putfield 50, 3) := by decide +kernel
theorem dX5_clear_10 : decode cX5_clear 10 = .ok (.aload_n 0, 1) := by decide +kernel
theorem dX5_clear_11 : decode cX5_clear 11 = .ok (.iconst 0, 1) := by decide +kernel
theorem dX5_clear_12 : decode cX5_clear 12 = .ok (.putfield 53, 3) := by decide +kernel
theorem dX5_clear_15 : decode cX5_clear 15 = .ok (.aload_n 0, 1) := by decide +kernel
theorem dX5_clear_16 : decode cX5_clear 16 = .ok (.iconst 0, 1) := by decide +kernel
theorem dX5_clear_17 : decode cX5_clear 17 = .ok (.putfield 56, 3) := by decide +kernel
theorem dX5_clear_20 : decode cX5_clear 20 = .ok (.aload_n 0, 1) := by decide +kernel
theorem dX5_clear_21 : decode cX5_clear 21 = .ok (.iconst 1, 1) := by decide +kernel
theorem dX5_clear_22 : decode cX5_clear 22 = .ok (.putfield 9, 3) := by decide +kernel
theorem dX5_clear_25 : decode cX5_clear 25 = .ok (.aload_n 0, 1) := by decide +kernel
theorem dX5_clear_26 : decode cX5_clear 26 = .ok (.iconst 0, 1) := by decide +kernel
theorem dX5_clear_27 : decode cX5_clear 27 = .ok (.putfield 59, 3) := by decide +kernel
theorem dX5_clear_30 : decode cX5_clear 30 = .ok (.aload_n 0, 1) := by decide +kernel
theorem dX5_clear_31 : decode cX5_clear 31 = .ok (.bipush 40, 2) := by decide +kernel
theorem dX5_clear_33 : decode cX5_clear 33 = .ok (.putfield 15, 3) := by decide +kernel
theorem dX5_clear_36 : decode cX5_clear 36 = .ok (.aload_n 0, 1) := by decide +kernel
theorem dX5_clear_37 : decode cX5_clear 37 = .ok (.iconst 0, 1) := by decide +kernel
theorem dX5_clear_38 : decode cX5_clear 38 = .ok (.putfield 62, 3) := by decide +kernel
theorem dX5_clear_41 : decode cX5_clear 41 = .ok (.aload_n 0, 1) := by decide +kernel
theorem dX5_clear_42 : decode cX5_clear 42 = .ok (.iconst 0, 1) := by decide +kernel
theorem dX5_clear_43 : decode cX5_clear 43 = .ok (.putfield 65, 3) := by decide +kernel
theorem dX5_clear_46 : decode cX5_clear 46 = .ok (.return_, 1) := by decide +kernel
set_option maxHeartbeats 4000000 in
set_option maxRecDepth 100000 in
theorem c_X5_clear {l : Launch} {G : Gc} (qd : Nat) (d_slides : Int32) (d_hearers : Int32) (d_nears : Int32) (d_lines : Int32) (d_pass : Int32) (d_spread : Int32) (d_lamp : Int32) (d_behind : Int32) (d_settingsTold : Int32) (dslideNames : Nat) (dpictures : Nat) (dheats : Nat) (dafter : Nat) (dhearerNames : Nat) (dneeds : Nat) (dlikes : Nat) (dhates : Nat) (dnear : Nat)  : Cv l yX5_clear cX5_clear 1 0 0 0 G [.ref qd] [(qd, .inr (4, [.int d_slides, .int d_hearers, .int d_nears, .int d_lines, .int d_pass, .int d_spread, .int d_lamp, .int d_behind, .int d_settingsTold, .ref dslideNames, .ref dpictures, .ref dheats, .ref dafter, .ref dhearerNames, .ref dneeds, .ref dlikes, .ref dhates, .ref dnear]))] (fun (u9 : va_W) => u9 = [(qd, .inr (4, [.int 0, .int 0, .int 0, .int 0, .int 1, .int 0, .int 40, .int 0, .int 0, .ref dslideNames, .ref dpictures, .ref dheats, .ref dafter, .ref dhearerNames, .ref dneeds, .ref dlikes, .ref dhates, .ref dnear]))]) := by
  refine Cv.of (by decide) (Nat.le_of_ble_eq_true rfl) ?_
  intro p e s m below meth c ls A B hw hl
  have C : CallFix p m c cX5_clear 1 s _ gw "LanternState$Scene" := B.1
  have hl : lv_has ls 1 [(0, .ref qd)] := hl
  refine lv_aload_n C.1 C.2.1 dX5_clear_0 rfl (lv_at hl 0 rfl) ?_
  refine lv_iconst (v := 0) C.1 C.2.1 dX5_clear_1 (by decide) ?_
  refine x_put (w' := [(qd, .inr (4, [.int 0, .int d_hearers, .int d_nears, .int d_lines, .int d_pass, .int d_spread, .int d_lamp, .int d_behind, .int d_settingsTold, .ref dslideNames, .ref dpictures, .ref dheats, .ref dafter, .ref dhearerNames, .ref dneeds, .ref dlikes, .ref dhates, .ref dnear]))]) C hw iwX5 tyX5_ok nmX5 4 rfl 0 rfl 0 (by decide) kw147 rfl rfl rfl (Nat.le_of_ble_eq_true rfl) rfl dX5_clear_2 (fun H locs hw => ?_)
  refine lv_aload_n C.1 C.2.1 dX5_clear_5 rfl (lv_at hl 0 rfl) ?_
  refine lv_iconst (v := 0) C.1 C.2.1 dX5_clear_6 (by decide) ?_
  refine x_put (w' := [(qd, .inr (4, [.int 0, .int 0, .int d_nears, .int d_lines, .int d_pass, .int d_spread, .int d_lamp, .int d_behind, .int d_settingsTold, .ref dslideNames, .ref dpictures, .ref dheats, .ref dafter, .ref dhearerNames, .ref dneeds, .ref dlikes, .ref dhates, .ref dnear]))]) C hw iwX5 tyX5_ok nmX5 4 rfl 0 rfl 1 (by decide) kw152 rfl rfl rfl (Nat.le_of_ble_eq_true rfl) rfl dX5_clear_7 (fun H locs hw => ?_)
  refine lv_aload_n C.1 C.2.1 dX5_clear_10 rfl (lv_at hl 0 rfl) ?_
  refine lv_iconst (v := 0) C.1 C.2.1 dX5_clear_11 (by decide) ?_
  refine x_put (w' := [(qd, .inr (4, [.int 0, .int 0, .int 0, .int d_lines, .int d_pass, .int d_spread, .int d_lamp, .int d_behind, .int d_settingsTold, .ref dslideNames, .ref dpictures, .ref dheats, .ref dafter, .ref dhearerNames, .ref dneeds, .ref dlikes, .ref dhates, .ref dnear]))]) C hw iwX5 tyX5_ok nmX5 4 rfl 0 rfl 2 (by decide) kw156 rfl rfl rfl (Nat.le_of_ble_eq_true rfl) rfl dX5_clear_12 (fun H locs hw => ?_)
  refine lv_aload_n C.1 C.2.1 dX5_clear_15 rfl (lv_at hl 0 rfl) ?_
  refine lv_iconst (v := 0) C.1 C.2.1 dX5_clear_16 (by decide) ?_
  refine x_put (w' := [(qd, .inr (4, [.int 0, .int 0, .int 0, .int 0, .int d_pass, .int d_spread, .int d_lamp, .int d_behind, .int d_settingsTold, .ref dslideNames, .ref dpictures, .ref dheats, .ref dafter, .ref dhearerNames, .ref dneeds, .ref dlikes, .ref dhates, .ref dnear]))]) C hw iwX5 tyX5_ok nmX5 4 rfl 0 rfl 3 (by decide) kw158 rfl rfl rfl (Nat.le_of_ble_eq_true rfl) rfl dX5_clear_17 (fun H locs hw => ?_)
  refine lv_aload_n C.1 C.2.1 dX5_clear_20 rfl (lv_at hl 0 rfl) ?_
  refine lv_iconst (v := 1) C.1 C.2.1 dX5_clear_21 (by decide) ?_
  refine x_put (w' := [(qd, .inr (4, [.int 0, .int 0, .int 0, .int 0, .int 1, .int d_spread, .int d_lamp, .int d_behind, .int d_settingsTold, .ref dslideNames, .ref dpictures, .ref dheats, .ref dafter, .ref dhearerNames, .ref dneeds, .ref dlikes, .ref dhates, .ref dnear]))]) C hw iwX5 tyX5_ok nmX5 4 rfl 0 rfl 4 (by decide) kw160 rfl rfl rfl (Nat.le_of_ble_eq_true rfl) rfl dX5_clear_22 (fun H locs hw => ?_)
  refine lv_aload_n C.1 C.2.1 dX5_clear_25 rfl (lv_at hl 0 rfl) ?_
  refine lv_iconst (v := 0) C.1 C.2.1 dX5_clear_26 (by decide) ?_
  refine x_put (w' := [(qd, .inr (4, [.int 0, .int 0, .int 0, .int 0, .int 1, .int 0, .int d_lamp, .int d_behind, .int d_settingsTold, .ref dslideNames, .ref dpictures, .ref dheats, .ref dafter, .ref dhearerNames, .ref dneeds, .ref dlikes, .ref dhates, .ref dnear]))]) C hw iwX5 tyX5_ok nmX5 4 rfl 0 rfl 5 (by decide) kw162 rfl rfl rfl (Nat.le_of_ble_eq_true rfl) rfl dX5_clear_27 (fun H locs hw => ?_)
  refine lv_aload_n C.1 C.2.1 dX5_clear_30 rfl (lv_at hl 0 rfl) ?_
  refine lv_bipush (v := 40) C.1 C.2.1 dX5_clear_31 (by decide) ?_
  refine x_put (w' := [(qd, .inr (4, [.int 0, .int 0, .int 0, .int 0, .int 1, .int 0, .int 40, .int d_behind, .int d_settingsTold, .ref dslideNames, .ref dpictures, .ref dheats, .ref dafter, .ref dhearerNames, .ref dneeds, .ref dlikes, .ref dhates, .ref dnear]))]) C hw iwX5 tyX5_ok nmX5 4 rfl 0 rfl 6 (by decide) kw164 rfl rfl rfl (Nat.le_of_ble_eq_true rfl) rfl dX5_clear_33 (fun H locs hw => ?_)
  refine lv_aload_n C.1 C.2.1 dX5_clear_36 rfl (lv_at hl 0 rfl) ?_
  refine lv_iconst (v := 0) C.1 C.2.1 dX5_clear_37 (by decide) ?_
  refine x_put (w' := [(qd, .inr (4, [.int 0, .int 0, .int 0, .int 0, .int 1, .int 0, .int 40, .int 0, .int d_settingsTold, .ref dslideNames, .ref dpictures, .ref dheats, .ref dafter, .ref dhearerNames, .ref dneeds, .ref dlikes, .ref dhates, .ref dnear]))]) C hw iwX5 tyX5_ok nmX5 4 rfl 0 rfl 7 (by decide) kw169 rfl rfl rfl (Nat.le_of_ble_eq_true rfl) rfl dX5_clear_38 (fun H locs hw => ?_)
  refine lv_aload_n C.1 C.2.1 dX5_clear_41 rfl (lv_at hl 0 rfl) ?_
  refine lv_iconst (v := 0) C.1 C.2.1 dX5_clear_42 (by decide) ?_
  refine x_put (w' := [(qd, .inr (4, [.int 0, .int 0, .int 0, .int 0, .int 1, .int 0, .int 40, .int 0, .int 0, .ref dslideNames, .ref dpictures, .ref dheats, .ref dafter, .ref dhearerNames, .ref dneeds, .ref dlikes, .ref dhates, .ref dnear]))]) C hw iwX5 tyX5_ok nmX5 4 rfl 0 rfl 8 (by decide) kw170 rfl rfl rfl (Nat.le_of_ble_eq_true rfl) rfl dX5_clear_43 (fun H locs hw => ?_)
  exact x_retv B hw rfl (Nat.le_of_ble_eq_true rfl) (Nat.le_of_ble_eq_true rfl) dX5_clear_46
theorem dX5_read_0 : decode cX5_read 0 = .ok (.aload_n 0, 1) := by decide +kernel
theorem dX5_read_1 : decode cX5_read 1 = .ok (.invokevirtual 74, 3) := by decide +kernel
theorem mwX5_clear : MwV yX5_clear cX5_clear 1 none 0 := ⟨⟨kw525, kw7, by decide +kernel⟩, kw524, kS0⟩
theorem dX5_read_4 : decode cX5_read 4 = .ok (.aload_n 1, 1) := by decide +kernel
theorem dX5_read_5 : decode cX5_read 5 = .ok (.invokevirtual 77, 3) := by decide +kernel
theorem mwX9_next : MwV yX9_next cX9_next 2 none 0 := ⟨⟨kw529, kw2, by decide +kernel⟩, kw527, kw528⟩
theorem dX5_read_8 : decode cX5_read 8 = .ok (.aload_n 0, 1) := by decide +kernel
theorem dX5_read_9 : decode cX5_read 9 = .ok (.getfield 56, 3) := by decide +kernel
theorem dX5_read_12 : decode cX5_read 12 = .ok (.sipush 940, 3) := by decide +kernel
theorem dX5_read_15 : decode cX5_read 15 = .ok (.if_icmp .ge 44, 3) := by decide +kernel
theorem dX5_read_18 : decode cX5_read 18 = .ok (.aload_n 1, 1) := by decide +kernel
theorem dX5_read_19 : decode cX5_read 19 = .ok (.getfield 82, 3) := by decide +kernel
theorem dX5_read_22 : decode cX5_read 22 = .ok (.ifCond .eq 37, 3) := by decide +kernel
theorem dX5_read_59 : decode cX5_read 59 = .ok (.iconst 1, 1) := by decide +kernel
theorem dX5_read_60 : decode cX5_read 60 = .ok (.ireturn, 1) := by decide +kernel
set_option maxHeartbeats 4000000 in
set_option maxRecDepth 100000 in
theorem c_X5_read {l : Launch} {G : Gc} (qd : Nat) (qt : Nat) (d_slides : Int32) (d_hearers : Int32) (d_nears : Int32) (d_lines : Int32) (d_pass : Int32) (d_spread : Int32) (d_lamp : Int32) (d_behind : Int32) (d_settingsTold : Int32) (dslideNames : Nat) (dpictures : Nat) (dheats : Nat) (dafter : Nat) (dhearerNames : Nat) (dneeds : Nat) (dlikes : Nat) (dhates : Nat) (dnear : Nat) (kc : Nat) (bys : Nat) (tmo : Int32) (tki : Int32) (tpl : Int32) (tva : Int32) (tco : Int64) (tke : Int32) (tfa : Int32) (tfp : Int32) (hm : (0 : Int32) ≤ tmo) : Ci l yX5_read cX5_read 2 (some .boolean) 2 0 0 G [.ref qd, .ref qt] [(qd, .inr (4, [.int d_slides, .int d_hearers, .int d_nears, .int d_lines, .int d_pass, .int d_spread, .int d_lamp, .int d_behind, .int d_settingsTold, .ref dslideNames, .ref dpictures, .ref dheats, .ref dafter, .ref dhearerNames, .ref dneeds, .ref dlikes, .ref dhates, .ref dnear])), (qt, .inr (8, [.ref kc, .ref bys, .int 0, .int tmo, .int 0, .int tki, .int tpl, .int tva, .long tco, .int tke, .int tfa, .int tfp]))] (fun (r9 : Int32) (u9 : va_W) => r9 = 1 ∧ u9 = [(qd, .inr (4, [.int 0, .int 0, .int 0, .int 0, .int 1, .int 0, .int 40, .int 0, .int 0, .ref dslideNames, .ref dpictures, .ref dheats, .ref dafter, .ref dhearerNames, .ref dneeds, .ref dlikes, .ref dhates, .ref dnear])), (qt, .inr (8, [.ref kc, .ref bys, .int 0, .int tmo, .int 0, .int 0, .int 0, .int 0, .long 0, .int (-1), .int tfa, .int tfp]))]) := by
  refine Ci.of (by decide) (Nat.le_of_ble_eq_true rfl) ?_
  intro p e s m below meth c ls A B hw hl
  have C : CallFix p m c cX5_read 2 s _ gw "LanternState$Scene" := B.1
  have hl : lv_has ls 2 [(0, .ref qd), (1, .ref qt)] := hl
  refine lv_aload_n C.1 C.2.1 dX5_read_0 rfl (lv_at hl 0 rfl) ?_
  refine x_callvV (As := []) (rest := []) (wr := [(qt, .inr (8, [.ref kc, .ref bys, .int 0, .int tmo, .int 0, .int tki, .int tpl, .int tva, .long tco, .int tke, .int tfa, .int tfp]))]) C hw (c_X5_clear qd d_slides d_hearers d_nears d_lines d_pass d_spread d_lamp d_behind d_settingsTold dslideNames dpictures dheats dafter dhearerNames dneeds dlikes dhates dnear) mwX5_clear kw522 [0] [1] rfl rfl rfl rfl (by decide) 0 rfl rfl rfl rfl hl.1 rfl (Nat.le_of_ble_eq_true rfl) ⟨(Nat.le_of_ble_eq_true rfl), (Nat.le_of_ble_eq_true rfl)⟩ ⟨(Nat.le_of_ble_eq_true rfl), (Nat.le_of_ble_eq_true rfl)⟩ dX5_read_1 (fun  u9 H locs hp9 hw => ?_)
  obtain rfl := hp9
  have hw : Wd G s A [(qt, .inr (8, [.ref kc, .ref bys, .int 0, .int tmo, .int 0, .int tki, .int tpl, .int tva, .long tco, .int tke, .int tfa, .int tfp])), (qd, .inr (4, [.int 0, .int 0, .int 0, .int 0, .int 1, .int 0, .int 40, .int 0, .int 0, .ref dslideNames, .ref dpictures, .ref dheats, .ref dafter, .ref dhearerNames, .ref dneeds, .ref dlikes, .ref dhates, .ref dnear]))] H _ := hw
  refine lv_aload_n C.1 C.2.1 dX5_read_4 rfl (lv_at hl 1 rfl) ?_
  refine x_callvV (As := []) (rest := []) (wr := [(qd, .inr (4, [.int 0, .int 0, .int 0, .int 0, .int 1, .int 0, .int 40, .int 0, .int 0, .ref dslideNames, .ref dpictures, .ref dheats, .ref dafter, .ref dhearerNames, .ref dneeds, .ref dlikes, .ref dhates, .ref dnear]))]) C hw (c_X9_next0 qt kc bys tmo tki tpl tva tco tke tfa tfp hm) mwX9_next kw526 [0] [1] rfl rfl rfl rfl (by decide) 0 rfl rfl rfl rfl hl.1 rfl (Nat.le_of_ble_eq_true rfl) ⟨(Nat.le_of_ble_eq_true rfl), (Nat.le_of_ble_eq_true rfl)⟩ ⟨(Nat.le_of_ble_eq_true rfl), (Nat.le_of_ble_eq_true rfl)⟩ dX5_read_5 (fun  u9 H locs hp9 hw => ?_)
  obtain rfl := hp9
  have hw : Wd G s A [(qd, .inr (4, [.int 0, .int 0, .int 0, .int 0, .int 1, .int 0, .int 40, .int 0, .int 0, .ref dslideNames, .ref dpictures, .ref dheats, .ref dafter, .ref dhearerNames, .ref dneeds, .ref dlikes, .ref dhates, .ref dnear])), (qt, .inr (8, [.ref kc, .ref bys, .int 0, .int tmo, .int 0, .int 0, .int 0, .int 0, .long 0, .int (-1), .int tfa, .int tfp]))] H _ := hw
  refine lv_aload_n C.1 C.2.1 dX5_read_8 rfl (lv_at hl 0 rfl) ?_
  refine x_get C hw iwX5 4 rfl 0 rfl 3 (by decide) kw158 rfl dX5_read_9 ?_
  refine lv_sipush (v := 940) C.1 C.2.1 dX5_read_12 (by decide) ?_
  refine lv_icmp_ge (tgt := 59) C.1 C.2.1 dX5_read_15 (by decide) (fun h9 => absurd h9 (by decide)) (fun _ => ?_)
  refine lv_aload_n C.1 C.2.1 dX5_read_18 rfl (lv_at hl 1 rfl) ?_
  refine x_get C hw iwX9 8 rfl 1 rfl 5 (by decide) kw96 rfl dX5_read_19 ?_
  refine lv_if_eq (tgt := 59) C.1 C.2.1 dX5_read_22 (by decide) (fun _ => ?_) (fun h9 => absurd (by decide) h9)
  refine lv_iconst (v := 1) C.1 C.2.1 dX5_read_59 (by decide) ?_
  exact x_retz B hw rfl ⟨rfl, rfl⟩ (Nat.le_of_ble_eq_true rfl) (Nat.le_of_ble_eq_true rfl) dX5_read_60
theorem dX8_begin_0 : decode cX8_begin 0 = .ok (.aload_n 0, 1) := by decide +kernel
theorem dX8_begin_1 : decode cX8_begin 1 = .ok (.iconst 0, 1) := by decide +kernel
theorem dX8_begin_2 : decode cX8_begin 2 = .ok (.putfield 21, 3) := by decide +kernel
theorem dX8_begin_5 : decode cX8_begin 5 = .ok (.aload_n 0, 1) := by decide +kernel
theorem dX8_begin_6 : decode cX8_begin 6 = .ok (.iconst 0, 1) := by decide +kernel
theorem dX8_begin_7 : decode cX8_begin 7 = .ok (.putfield 25, 3) := by decide +kernel
theorem dX8_begin_10 : decode cX8_begin 10 = .ok (.aload_n 0, 1) := by decide +kernel
theorem dX8_begin_11 : decode cX8_begin 11 = .ok (.iconst 0, 1) := by decide +kernel
theorem dX8_begin_12 : decode cX8_begin 12 = .ok (.putfield 28, 3) := by decide +kernel
theorem dX8_begin_15 : decode cX8_begin 15 = .ok (.aload_n 0, 1) := by decide +kernel
theorem dX8_begin_16 : decode cX8_begin 16 = .ok (.iconst 0, 1) := by decide +kernel
theorem dX8_begin_17 : decode cX8_begin 17 = .ok (.putfield 32, 3) := by decide +kernel
theorem dX8_begin_20 : decode cX8_begin 20 = .ok (.aload_n 0, 1) := by decide +kernel
theorem dX8_begin_21 : decode cX8_begin 21 = .ok (.iconst 0, 1) := by decide +kernel
theorem dX8_begin_22 : decode cX8_begin 22 = .ok (.putfield 35, 3) := by decide +kernel
theorem dX8_begin_25 : decode cX8_begin 25 = .ok (.aload_n 0, 1) := by decide +kernel
theorem dX8_begin_26 : decode cX8_begin 26 = .ok (.aload_n 1, 1) := by decide +kernel
theorem dX8_begin_27 : decode cX8_begin 27 = .ok (.getfield 38, 3) := by decide +kernel
theorem dX8_begin_30 : decode cX8_begin 30 = .ok (.putfield 43, 3) := by decide +kernel
theorem dX8_begin_33 : decode cX8_begin 33 = .ok (.aload_n 0, 1) := by decide +kernel
theorem dX8_begin_34 : decode cX8_begin 34 = .ok (.iconst 0, 1) := by decide +kernel
theorem dX8_begin_35 : decode cX8_begin 35 = .ok (.putfield 44, 3) := by decide +kernel
theorem dX8_begin_38 : decode cX8_begin 38 = .ok (.iconst 0, 1) := by decide +kernel
theorem dX8_begin_39 : decode cX8_begin 39 = .ok (.istore_n 2, 1) := by decide +kernel
theorem dX8_begin_40 : decode cX8_begin 40 = .ok (.iload_n 2, 1) := by decide +kernel
theorem dX8_begin_41 : decode cX8_begin 41 = .ok (.bipush 6, 2) := by decide +kernel
theorem dX8_begin_43 : decode cX8_begin 43 = .ok (.if_icmp .ge 28, 3) := by decide +kernel
theorem dX8_begin_46 : decode cX8_begin 46 = .ok (.aload_n 0, 1) := by decide +kernel
theorem dX8_begin_47 : decode cX8_begin 47 = .ok (.getfield 9, 3) := by decide +kernel
theorem dX8_begin_50 : decode cX8_begin 50 = .ok (.iload_n 2, 1) := by decide +kernel
theorem dX8_begin_51 : decode cX8_begin 51 = .ok (.aload_n 1, 1) := by decide +kernel
theorem dX8_begin_52 : decode cX8_begin 52 = .ok (.getfield 47, 3) := by decide +kernel
theorem dX8_begin_55 : decode cX8_begin 55 = .ok (.iload_n 2, 1) := by decide +kernel
theorem dX8_begin_56 : decode cX8_begin 56 = .ok (.iaload, 1) := by decide +kernel
theorem dX8_begin_57 : decode cX8_begin 57 = .ok (.iastore, 1) := by decide +kernel
theorem dX8_begin_58 : decode cX8_begin 58 = .ok (.aload_n 0, 1) := by decide +kernel
theorem dX8_begin_59 : decode cX8_begin 59 = .ok (.getfield 15, 3) := by decide +kernel
theorem dX8_begin_62 : decode cX8_begin 62 = .ok (.iload_n 2, 1) := by decide +kernel
theorem dX8_begin_63 : decode cX8_begin 63 = .ok (.iconst 0, 1) := by decide +kernel
theorem dX8_begin_64 : decode cX8_begin 64 = .ok (.iastore, 1) := by decide +kernel
theorem dX8_begin_65 : decode cX8_begin 65 = .ok (.iinc 2 1, 3) := by decide +kernel
theorem dX8_begin_68 : decode cX8_begin 68 = .ok (.goto (-28), 3) := by decide +kernel
theorem dX8_begin_71 : decode cX8_begin 71 = .ok (.iconst 0, 1) := by decide +kernel
theorem dX8_begin_72 : decode cX8_begin 72 = .ok (.istore_n 2, 1) := by decide +kernel
theorem dX8_begin_73 : decode cX8_begin 73 = .ok (.iload_n 2, 1) := by decide +kernel
theorem dX8_begin_74 : decode cX8_begin 74 = .ok (.bipush 8, 2) := by decide +kernel
theorem dX8_begin_76 : decode cX8_begin 76 = .ok (.if_icmp .ge 16, 3) := by decide +kernel
theorem dX8_begin_79 : decode cX8_begin 79 = .ok (.aload_n 0, 1) := by decide +kernel
theorem dX8_begin_80 : decode cX8_begin 80 = .ok (.getfield 18, 3) := by decide +kernel
theorem dX8_begin_83 : decode cX8_begin 83 = .ok (.iload_n 2, 1) := by decide +kernel
theorem dX8_begin_84 : decode cX8_begin 84 = .ok (.iconst 0, 1) := by decide +kernel
theorem dX8_begin_85 : decode cX8_begin 85 = .ok (.iastore, 1) := by decide +kernel
theorem dX8_begin_86 : decode cX8_begin 86 = .ok (.iinc 2 1, 3) := by decide +kernel
theorem dX8_begin_89 : decode cX8_begin 89 = .ok (.goto (-16), 3) := by decide +kernel
theorem dX8_begin_92 : decode cX8_begin 92 = .ok (.return_, 1) := by decide +kernel
set_option maxHeartbeats 4000000 in
set_option maxRecDepth 100000 in
theorem c_X8_begin {l : Launch} {G : Gc} (qa : Nat) (qs : Nat) (a_hour : Int32) (a_heat : Int32) (a_black : Int32) (a_so : Int32) (a_cracked : Int32) (a_behind : Int32) (a_allSighs : Int32) (a_seed : Int32) (apictures : Nat) (ashown : Nat) (asighed : Nat) (fa_pictures : Nat → Int32) (fa_shown : Nat → Int32) (fa_sighed : Nat → Int32) (s_slides : Int32) (s_hearers : Int32) (s_nears : Int32) (s_lines : Int32) (s_pass : Int32) (s_spread : Int32) (s_lamp : Int32) (s_behind : Int32) (s_settingsTold : Int32) (sslideNames : Nat) (spictures : Nat) (sheats : Nat) (safter : Nat) (shearerNames : Nat) (sneeds : Nat) (slikes : Nat) (shates : Nat) (snear : Nat) (fs_pictures : Nat → Int32)  : Cv l yX8_begin cX8_begin 3 0 0 0 G [.ref qa, .ref qs] [(qa, .inr (7, [.int a_hour, .int a_heat, .int a_black, .int a_so, .int a_cracked, .int a_behind, .int a_allSighs, .int a_seed, .ref apictures, .ref ashown, .ref asighed])), (apictures, eI G 6 fa_pictures), (ashown, eI G 6 fa_shown), (asighed, eI G 8 fa_sighed), (qs, .inr (4, [.int s_slides, .int s_hearers, .int s_nears, .int s_lines, .int s_pass, .int s_spread, .int s_lamp, .int s_behind, .int s_settingsTold, .ref sslideNames, .ref spictures, .ref sheats, .ref safter, .ref shearerNames, .ref sneeds, .ref slikes, .ref shates, .ref snear])), (spictures, eI G 6 fs_pictures)] (fun (u9 : va_W) => ∃ (g1 : Nat → Int32) (g2 : Nat → Int32) (g3 : Nat → Int32), u9 = [(qa, .inr (7, [.int 0, .int 0, .int 0, .int 0, .int 0, .int s_behind, .int 0, .int a_seed, .ref apictures, .ref ashown, .ref asighed])), (apictures, eI G 6 g1), (ashown, eI G 6 g2), (asighed, eI G 8 g3), (qs, .inr (4, [.int s_slides, .int s_hearers, .int s_nears, .int s_lines, .int s_pass, .int s_spread, .int s_lamp, .int s_behind, .int s_settingsTold, .ref sslideNames, .ref spictures, .ref sheats, .ref safter, .ref shearerNames, .ref sneeds, .ref slikes, .ref shates, .ref snear])), (spictures, eI G 6 fs_pictures)]) := by
  refine Cv.of (by decide) (Nat.le_of_ble_eq_true rfl) ?_
  intro p e s m below meth c ls A B hw hl
  have C : CallFix p m c cX8_begin 3 s _ gw "LanternState$State" := B.1
  have hl : lv_has ls 3 [(0, .ref qa), (1, .ref qs)] := hl
  refine lv_aload_n C.1 C.2.1 dX8_begin_0 rfl (lv_at hl 0 rfl) ?_
  refine lv_iconst (v := 0) C.1 C.2.1 dX8_begin_1 (by decide) ?_
  refine x_put (w' := [(qa, .inr (7, [.int 0, .int a_heat, .int a_black, .int a_so, .int a_cracked, .int a_behind, .int a_allSighs, .int a_seed, .ref apictures, .ref ashown, .ref asighed])), (apictures, eI G 6 fa_pictures), (ashown, eI G 6 fa_shown), (asighed, eI G 8 fa_sighed), (qs, .inr (4, [.int s_slides, .int s_hearers, .int s_nears, .int s_lines, .int s_pass, .int s_spread, .int s_lamp, .int s_behind, .int s_settingsTold, .ref sslideNames, .ref spictures, .ref sheats, .ref safter, .ref shearerNames, .ref sneeds, .ref slikes, .ref shates, .ref snear])), (spictures, eI G 6 fs_pictures)]) C hw iwX8 tyX8_ok nmX8 7 rfl 0 rfl 0 (by decide) kw237 rfl rfl rfl (Nat.le_of_ble_eq_true rfl) rfl dX8_begin_2 (fun H locs hw => ?_)
  refine lv_aload_n C.1 C.2.1 dX8_begin_5 rfl (lv_at hl 0 rfl) ?_
  refine lv_iconst (v := 0) C.1 C.2.1 dX8_begin_6 (by decide) ?_
  refine x_put (w' := [(qa, .inr (7, [.int 0, .int 0, .int a_black, .int a_so, .int a_cracked, .int a_behind, .int a_allSighs, .int a_seed, .ref apictures, .ref ashown, .ref asighed])), (apictures, eI G 6 fa_pictures), (ashown, eI G 6 fa_shown), (asighed, eI G 8 fa_sighed), (qs, .inr (4, [.int s_slides, .int s_hearers, .int s_nears, .int s_lines, .int s_pass, .int s_spread, .int s_lamp, .int s_behind, .int s_settingsTold, .ref sslideNames, .ref spictures, .ref sheats, .ref safter, .ref shearerNames, .ref sneeds, .ref slikes, .ref shates, .ref snear])), (spictures, eI G 6 fs_pictures)]) C hw iwX8 tyX8_ok nmX8 7 rfl 0 rfl 1 (by decide) kw240 rfl rfl rfl (Nat.le_of_ble_eq_true rfl) rfl dX8_begin_7 (fun H locs hw => ?_)
  refine lv_aload_n C.1 C.2.1 dX8_begin_10 rfl (lv_at hl 0 rfl) ?_
  refine lv_iconst (v := 0) C.1 C.2.1 dX8_begin_11 (by decide) ?_
  refine x_put (w' := [(qa, .inr (7, [.int 0, .int 0, .int 0, .int a_so, .int a_cracked, .int a_behind, .int a_allSighs, .int a_seed, .ref apictures, .ref ashown, .ref asighed])), (apictures, eI G 6 fa_pictures), (ashown, eI G 6 fa_shown), (asighed, eI G 8 fa_sighed), (qs, .inr (4, [.int s_slides, .int s_hearers, .int s_nears, .int s_lines, .int s_pass, .int s_spread, .int s_lamp, .int s_behind, .int s_settingsTold, .ref sslideNames, .ref spictures, .ref sheats, .ref safter, .ref shearerNames, .ref sneeds, .ref slikes, .ref shates, .ref snear])), (spictures, eI G 6 fs_pictures)]) C hw iwX8 tyX8_ok nmX8 7 rfl 0 rfl 2 (by decide) kw243 rfl (by first | rfl | decide) rfl (Nat.le_of_ble_eq_true rfl) rfl dX8_begin_12 (fun H locs hw => ?_)
  refine lv_aload_n C.1 C.2.1 dX8_begin_15 rfl (lv_at hl 0 rfl) ?_
  refine lv_iconst (v := 0) C.1 C.2.1 dX8_begin_16 (by decide) ?_
  refine x_put (w' := [(qa, .inr (7, [.int 0, .int 0, .int 0, .int 0, .int a_cracked, .int a_behind, .int a_allSighs, .int a_seed, .ref apictures, .ref ashown, .ref asighed])), (apictures, eI G 6 fa_pictures), (ashown, eI G 6 fa_shown), (asighed, eI G 8 fa_sighed), (qs, .inr (4, [.int s_slides, .int s_hearers, .int s_nears, .int s_lines, .int s_pass, .int s_spread, .int s_lamp, .int s_behind, .int s_settingsTold, .ref sslideNames, .ref spictures, .ref sheats, .ref safter, .ref shearerNames, .ref sneeds, .ref slikes, .ref shates, .ref snear])), (spictures, eI G 6 fs_pictures)]) C hw iwX8 tyX8_ok nmX8 7 rfl 0 rfl 3 (by decide) kw247 rfl rfl rfl (Nat.le_of_ble_eq_true rfl) rfl dX8_begin_17 (fun H locs hw => ?_)
  refine lv_aload_n C.1 C.2.1 dX8_begin_20 rfl (lv_at hl 0 rfl) ?_
  refine lv_iconst (v := 0) C.1 C.2.1 dX8_begin_21 (by decide) ?_
  refine x_put (w' := [(qa, .inr (7, [.int 0, .int 0, .int 0, .int 0, .int 0, .int a_behind, .int a_allSighs, .int a_seed, .ref apictures, .ref ashown, .ref asighed])), (apictures, eI G 6 fa_pictures), (ashown, eI G 6 fa_shown), (asighed, eI G 8 fa_sighed), (qs, .inr (4, [.int s_slides, .int s_hearers, .int s_nears, .int s_lines, .int s_pass, .int s_spread, .int s_lamp, .int s_behind, .int s_settingsTold, .ref sslideNames, .ref spictures, .ref sheats, .ref safter, .ref shearerNames, .ref sneeds, .ref slikes, .ref shates, .ref snear])), (spictures, eI G 6 fs_pictures)]) C hw iwX8 tyX8_ok nmX8 7 rfl 0 rfl 4 (by decide) kw251 rfl rfl rfl (Nat.le_of_ble_eq_true rfl) rfl dX8_begin_22 (fun H locs hw => ?_)
  refine lv_aload_n C.1 C.2.1 dX8_begin_25 rfl (lv_at hl 0 rfl) ?_
  refine lv_aload_n C.1 C.2.1 dX8_begin_26 rfl (lv_at hl 1 rfl) ?_
  refine x_get C hw iwX5 4 rfl 4 rfl 7 (by decide) kw168 rfl dX8_begin_27 ?_
  refine x_put (w' := [(qa, .inr (7, [.int 0, .int 0, .int 0, .int 0, .int 0, .int s_behind, .int a_allSighs, .int a_seed, .ref apictures, .ref ashown, .ref asighed])), (apictures, eI G 6 fa_pictures), (ashown, eI G 6 fa_shown), (asighed, eI G 8 fa_sighed), (qs, .inr (4, [.int s_slides, .int s_hearers, .int s_nears, .int s_lines, .int s_pass, .int s_spread, .int s_lamp, .int s_behind, .int s_settingsTold, .ref sslideNames, .ref spictures, .ref sheats, .ref safter, .ref shearerNames, .ref sneeds, .ref slikes, .ref shates, .ref snear])), (spictures, eI G 6 fs_pictures)]) C hw iwX8 tyX8_ok nmX8 7 rfl 0 rfl 5 (by decide) kw256 rfl rfl rfl (Nat.le_of_ble_eq_true rfl) rfl dX8_begin_30 (fun H locs hw => ?_)
  refine lv_aload_n C.1 C.2.1 dX8_begin_33 rfl (lv_at hl 0 rfl) ?_
  refine lv_iconst (v := 0) C.1 C.2.1 dX8_begin_34 (by decide) ?_
  refine x_put (w' := [(qa, .inr (7, [.int 0, .int 0, .int 0, .int 0, .int 0, .int s_behind, .int 0, .int a_seed, .ref apictures, .ref ashown, .ref asighed])), (apictures, eI G 6 fa_pictures), (ashown, eI G 6 fa_shown), (asighed, eI G 8 fa_sighed), (qs, .inr (4, [.int s_slides, .int s_hearers, .int s_nears, .int s_lines, .int s_pass, .int s_spread, .int s_lamp, .int s_behind, .int s_settingsTold, .ref sslideNames, .ref spictures, .ref sheats, .ref safter, .ref shearerNames, .ref sneeds, .ref slikes, .ref shates, .ref snear])), (spictures, eI G 6 fs_pictures)]) C hw iwX8 tyX8_ok nmX8 7 rfl 0 rfl 6 (by decide) kw260 rfl rfl rfl (Nat.le_of_ble_eq_true rfl) rfl dX8_begin_35 (fun H locs hw => ?_)
  refine lv_iconst (v := 0) C.1 C.2.1 dX8_begin_38 (by decide) ?_
  refine lv_istore_n (lv' := [(2, .int 0), (0, .ref qa), (1, .ref qs)]) C.1 C.2.1 dX8_begin_39 rfl hl (by decide) rfl (fun ls hl => ?_)
  refine lv_iload_n C.1 C.2.1 dX8_begin_40 rfl (lv_at hl 0 rfl) ?_
  refine lv_bipush (v := 6) C.1 C.2.1 dX8_begin_41 (by decide) ?_
  refine lv_icmp_ge (tgt := 71) C.1 C.2.1 dX8_begin_43 (by decide) (fun h9 => absurd h9 (by decide)) (fun _ => ?_)
  refine lv_aload_n C.1 C.2.1 dX8_begin_46 rfl (lv_at hl 1 rfl) ?_
  refine x_get C hw iwX8 7 rfl 0 rfl 8 (by decide) kw263 rfl dX8_begin_47 ?_
  refine lv_iload_n C.1 C.2.1 dX8_begin_50 rfl (lv_at hl 0 rfl) ?_
  refine lv_aload_n C.1 C.2.1 dX8_begin_51 rfl (lv_at hl 2 rfl) ?_
  refine x_get C hw iwX5 4 rfl 4 rfl 10 (by decide) kw174 rfl dX8_begin_52 ?_
  refine lv_iload_n C.1 C.2.1 dX8_begin_55 rfl (lv_at hl 0 rfl) ?_
  refine x_iald (v := (fs_pictures 0)) C hw 5 rfl (x_in rfl) rfl dX8_begin_56 ?_
  refine x_iast (f' := (upd fa_pictures 0 (fs_pictures 0))) (w' := [(qa, .inr (7, [.int 0, .int 0, .int 0, .int 0, .int 0, .int s_behind, .int 0, .int a_seed, .ref apictures, .ref ashown, .ref asighed])), (apictures, eI G 6 (upd fa_pictures 0 (fs_pictures 0))), (ashown, eI G 6 fa_shown), (asighed, eI G 8 fa_sighed), (qs, .inr (4, [.int s_slides, .int s_hearers, .int s_nears, .int s_lines, .int s_pass, .int s_spread, .int s_lamp, .int s_behind, .int s_settingsTold, .ref sslideNames, .ref spictures, .ref sheats, .ref safter, .ref shearerNames, .ref sneeds, .ref slikes, .ref shates, .ref snear])), (spictures, eI G 6 fs_pictures)]) C hw 1 rfl (x_in rfl) rfl rfl dX8_begin_57 (fun H locs hw => ?_)
  refine lv_aload_n C.1 C.2.1 dX8_begin_58 rfl (lv_at hl 1 rfl) ?_
  refine x_get C hw iwX8 7 rfl 0 rfl 9 (by decide) kw267 rfl dX8_begin_59 ?_
  refine lv_iload_n C.1 C.2.1 dX8_begin_62 rfl (lv_at hl 0 rfl) ?_
  refine lv_iconst (v := 0) C.1 C.2.1 dX8_begin_63 (by decide) ?_
  refine x_iast (f' := (upd fa_shown 0 0)) (w' := [(qa, .inr (7, [.int 0, .int 0, .int 0, .int 0, .int 0, .int s_behind, .int 0, .int a_seed, .ref apictures, .ref ashown, .ref asighed])), (apictures, eI G 6 (upd fa_pictures 0 (fs_pictures 0))), (ashown, eI G 6 (upd fa_shown 0 0)), (asighed, eI G 8 fa_sighed), (qs, .inr (4, [.int s_slides, .int s_hearers, .int s_nears, .int s_lines, .int s_pass, .int s_spread, .int s_lamp, .int s_behind, .int s_settingsTold, .ref sslideNames, .ref spictures, .ref sheats, .ref safter, .ref shearerNames, .ref sneeds, .ref slikes, .ref shates, .ref snear])), (spictures, eI G 6 fs_pictures)]) C hw 2 rfl (x_in rfl) rfl rfl dX8_begin_64 (fun H locs hw => ?_)
  refine lv_iinc (v := 1) (lv' := [(2, .int 1), (0, .ref qa), (1, .ref qs)]) C.1 C.2.1 dX8_begin_65 hl (k := 0) rfl (by decide) (by decide) rfl (fun ls hl => ?_)
  refine lv_goto (tgt := 40) C.1 C.2.1 dX8_begin_68 (by decide) ?_
  refine lv_iload_n C.1 C.2.1 dX8_begin_40 rfl (lv_at hl 0 rfl) ?_
  refine lv_bipush (v := 6) C.1 C.2.1 dX8_begin_41 (by decide) ?_
  refine lv_icmp_ge (tgt := 71) C.1 C.2.1 dX8_begin_43 (by decide) (fun h9 => absurd h9 (by decide)) (fun _ => ?_)
  refine lv_aload_n C.1 C.2.1 dX8_begin_46 rfl (lv_at hl 1 rfl) ?_
  refine x_get C hw iwX8 7 rfl 0 rfl 8 (by decide) kw263 rfl dX8_begin_47 ?_
  refine lv_iload_n C.1 C.2.1 dX8_begin_50 rfl (lv_at hl 0 rfl) ?_
  refine lv_aload_n C.1 C.2.1 dX8_begin_51 rfl (lv_at hl 2 rfl) ?_
  refine x_get C hw iwX5 4 rfl 4 rfl 10 (by decide) kw174 rfl dX8_begin_52 ?_
  refine lv_iload_n C.1 C.2.1 dX8_begin_55 rfl (lv_at hl 0 rfl) ?_
  refine x_iald (v := (fs_pictures 1)) C hw 5 rfl (x_in rfl) rfl dX8_begin_56 ?_
  refine x_iast (f' := (upd (upd fa_pictures 0 (fs_pictures 0)) 1 (fs_pictures 1))) (w' := [(qa, .inr (7, [.int 0, .int 0, .int 0, .int 0, .int 0, .int s_behind, .int 0, .int a_seed, .ref apictures, .ref ashown, .ref asighed])), (apictures, eI G 6 (upd (upd fa_pictures 0 (fs_pictures 0)) 1 (fs_pictures 1))), (ashown, eI G 6 (upd fa_shown 0 0)), (asighed, eI G 8 fa_sighed), (qs, .inr (4, [.int s_slides, .int s_hearers, .int s_nears, .int s_lines, .int s_pass, .int s_spread, .int s_lamp, .int s_behind, .int s_settingsTold, .ref sslideNames, .ref spictures, .ref sheats, .ref safter, .ref shearerNames, .ref sneeds, .ref slikes, .ref shates, .ref snear])), (spictures, eI G 6 fs_pictures)]) C hw 1 rfl (x_in rfl) rfl rfl dX8_begin_57 (fun H locs hw => ?_)
  refine lv_aload_n C.1 C.2.1 dX8_begin_58 rfl (lv_at hl 1 rfl) ?_
  refine x_get C hw iwX8 7 rfl 0 rfl 9 (by decide) kw267 rfl dX8_begin_59 ?_
  refine lv_iload_n C.1 C.2.1 dX8_begin_62 rfl (lv_at hl 0 rfl) ?_
  refine lv_iconst (v := 0) C.1 C.2.1 dX8_begin_63 (by decide) ?_
  refine x_iast (f' := (upd (upd fa_shown 0 0) 1 0)) (w' := [(qa, .inr (7, [.int 0, .int 0, .int 0, .int 0, .int 0, .int s_behind, .int 0, .int a_seed, .ref apictures, .ref ashown, .ref asighed])), (apictures, eI G 6 (upd (upd fa_pictures 0 (fs_pictures 0)) 1 (fs_pictures 1))), (ashown, eI G 6 (upd (upd fa_shown 0 0) 1 0)), (asighed, eI G 8 fa_sighed), (qs, .inr (4, [.int s_slides, .int s_hearers, .int s_nears, .int s_lines, .int s_pass, .int s_spread, .int s_lamp, .int s_behind, .int s_settingsTold, .ref sslideNames, .ref spictures, .ref sheats, .ref safter, .ref shearerNames, .ref sneeds, .ref slikes, .ref shates, .ref snear])), (spictures, eI G 6 fs_pictures)]) C hw 2 rfl (x_in rfl) rfl rfl dX8_begin_64 (fun H locs hw => ?_)
  refine lv_iinc (v := 2) (lv' := [(2, .int 2), (0, .ref qa), (1, .ref qs)]) C.1 C.2.1 dX8_begin_65 hl (k := 0) rfl (by decide) (by decide) rfl (fun ls hl => ?_)
  refine lv_goto (tgt := 40) C.1 C.2.1 dX8_begin_68 (by decide) ?_
  refine lv_iload_n C.1 C.2.1 dX8_begin_40 rfl (lv_at hl 0 rfl) ?_
  refine lv_bipush (v := 6) C.1 C.2.1 dX8_begin_41 (by decide) ?_
  refine lv_icmp_ge (tgt := 71) C.1 C.2.1 dX8_begin_43 (by decide) (fun h9 => absurd h9 (by decide)) (fun _ => ?_)
  refine lv_aload_n C.1 C.2.1 dX8_begin_46 rfl (lv_at hl 1 rfl) ?_
  refine x_get C hw iwX8 7 rfl 0 rfl 8 (by decide) kw263 rfl dX8_begin_47 ?_
  refine lv_iload_n C.1 C.2.1 dX8_begin_50 rfl (lv_at hl 0 rfl) ?_
  refine lv_aload_n C.1 C.2.1 dX8_begin_51 rfl (lv_at hl 2 rfl) ?_
  refine x_get C hw iwX5 4 rfl 4 rfl 10 (by decide) kw174 rfl dX8_begin_52 ?_
  refine lv_iload_n C.1 C.2.1 dX8_begin_55 rfl (lv_at hl 0 rfl) ?_
  refine x_iald (v := (fs_pictures 2)) C hw 5 rfl (x_in rfl) rfl dX8_begin_56 ?_
  refine x_iast (f' := (upd (upd (upd fa_pictures 0 (fs_pictures 0)) 1 (fs_pictures 1)) 2 (fs_pictures 2))) (w' := [(qa, .inr (7, [.int 0, .int 0, .int 0, .int 0, .int 0, .int s_behind, .int 0, .int a_seed, .ref apictures, .ref ashown, .ref asighed])), (apictures, eI G 6 (upd (upd (upd fa_pictures 0 (fs_pictures 0)) 1 (fs_pictures 1)) 2 (fs_pictures 2))), (ashown, eI G 6 (upd (upd fa_shown 0 0) 1 0)), (asighed, eI G 8 fa_sighed), (qs, .inr (4, [.int s_slides, .int s_hearers, .int s_nears, .int s_lines, .int s_pass, .int s_spread, .int s_lamp, .int s_behind, .int s_settingsTold, .ref sslideNames, .ref spictures, .ref sheats, .ref safter, .ref shearerNames, .ref sneeds, .ref slikes, .ref shates, .ref snear])), (spictures, eI G 6 fs_pictures)]) C hw 1 rfl (x_in rfl) rfl rfl dX8_begin_57 (fun H locs hw => ?_)
  refine lv_aload_n C.1 C.2.1 dX8_begin_58 rfl (lv_at hl 1 rfl) ?_
  refine x_get C hw iwX8 7 rfl 0 rfl 9 (by decide) kw267 rfl dX8_begin_59 ?_
  refine lv_iload_n C.1 C.2.1 dX8_begin_62 rfl (lv_at hl 0 rfl) ?_
  refine lv_iconst (v := 0) C.1 C.2.1 dX8_begin_63 (by decide) ?_
  refine x_iast (f' := (upd (upd (upd fa_shown 0 0) 1 0) 2 0)) (w' := [(qa, .inr (7, [.int 0, .int 0, .int 0, .int 0, .int 0, .int s_behind, .int 0, .int a_seed, .ref apictures, .ref ashown, .ref asighed])), (apictures, eI G 6 (upd (upd (upd fa_pictures 0 (fs_pictures 0)) 1 (fs_pictures 1)) 2 (fs_pictures 2))), (ashown, eI G 6 (upd (upd (upd fa_shown 0 0) 1 0) 2 0)), (asighed, eI G 8 fa_sighed), (qs, .inr (4, [.int s_slides, .int s_hearers, .int s_nears, .int s_lines, .int s_pass, .int s_spread, .int s_lamp, .int s_behind, .int s_settingsTold, .ref sslideNames, .ref spictures, .ref sheats, .ref safter, .ref shearerNames, .ref sneeds, .ref slikes, .ref shates, .ref snear])), (spictures, eI G 6 fs_pictures)]) C hw 2 rfl (x_in rfl) rfl rfl dX8_begin_64 (fun H locs hw => ?_)
  refine lv_iinc (v := 3) (lv' := [(2, .int 3), (0, .ref qa), (1, .ref qs)]) C.1 C.2.1 dX8_begin_65 hl (k := 0) rfl (by decide) (by decide) rfl (fun ls hl => ?_)
  refine lv_goto (tgt := 40) C.1 C.2.1 dX8_begin_68 (by decide) ?_
  refine lv_iload_n C.1 C.2.1 dX8_begin_40 rfl (lv_at hl 0 rfl) ?_
  refine lv_bipush (v := 6) C.1 C.2.1 dX8_begin_41 (by decide) ?_
  refine lv_icmp_ge (tgt := 71) C.1 C.2.1 dX8_begin_43 (by decide) (fun h9 => absurd h9 (by decide)) (fun _ => ?_)
  refine lv_aload_n C.1 C.2.1 dX8_begin_46 rfl (lv_at hl 1 rfl) ?_
  refine x_get C hw iwX8 7 rfl 0 rfl 8 (by decide) kw263 rfl dX8_begin_47 ?_
  refine lv_iload_n C.1 C.2.1 dX8_begin_50 rfl (lv_at hl 0 rfl) ?_
  refine lv_aload_n C.1 C.2.1 dX8_begin_51 rfl (lv_at hl 2 rfl) ?_
  refine x_get C hw iwX5 4 rfl 4 rfl 10 (by decide) kw174 rfl dX8_begin_52 ?_
  refine lv_iload_n C.1 C.2.1 dX8_begin_55 rfl (lv_at hl 0 rfl) ?_
  refine x_iald (v := (fs_pictures 3)) C hw 5 rfl (x_in rfl) rfl dX8_begin_56 ?_
  refine x_iast (f' := (upd (upd (upd (upd fa_pictures 0 (fs_pictures 0)) 1 (fs_pictures 1)) 2 (fs_pictures 2)) 3 (fs_pictures 3))) (w' := [(qa, .inr (7, [.int 0, .int 0, .int 0, .int 0, .int 0, .int s_behind, .int 0, .int a_seed, .ref apictures, .ref ashown, .ref asighed])), (apictures, eI G 6 (upd (upd (upd (upd fa_pictures 0 (fs_pictures 0)) 1 (fs_pictures 1)) 2 (fs_pictures 2)) 3 (fs_pictures 3))), (ashown, eI G 6 (upd (upd (upd fa_shown 0 0) 1 0) 2 0)), (asighed, eI G 8 fa_sighed), (qs, .inr (4, [.int s_slides, .int s_hearers, .int s_nears, .int s_lines, .int s_pass, .int s_spread, .int s_lamp, .int s_behind, .int s_settingsTold, .ref sslideNames, .ref spictures, .ref sheats, .ref safter, .ref shearerNames, .ref sneeds, .ref slikes, .ref shates, .ref snear])), (spictures, eI G 6 fs_pictures)]) C hw 1 rfl (x_in rfl) rfl rfl dX8_begin_57 (fun H locs hw => ?_)
  refine lv_aload_n C.1 C.2.1 dX8_begin_58 rfl (lv_at hl 1 rfl) ?_
  refine x_get C hw iwX8 7 rfl 0 rfl 9 (by decide) kw267 rfl dX8_begin_59 ?_
  refine lv_iload_n C.1 C.2.1 dX8_begin_62 rfl (lv_at hl 0 rfl) ?_
  refine lv_iconst (v := 0) C.1 C.2.1 dX8_begin_63 (by decide) ?_
  refine x_iast (f' := (upd (upd (upd (upd fa_shown 0 0) 1 0) 2 0) 3 0)) (w' := [(qa, .inr (7, [.int 0, .int 0, .int 0, .int 0, .int 0, .int s_behind, .int 0, .int a_seed, .ref apictures, .ref ashown, .ref asighed])), (apictures, eI G 6 (upd (upd (upd (upd fa_pictures 0 (fs_pictures 0)) 1 (fs_pictures 1)) 2 (fs_pictures 2)) 3 (fs_pictures 3))), (ashown, eI G 6 (upd (upd (upd (upd fa_shown 0 0) 1 0) 2 0) 3 0)), (asighed, eI G 8 fa_sighed), (qs, .inr (4, [.int s_slides, .int s_hearers, .int s_nears, .int s_lines, .int s_pass, .int s_spread, .int s_lamp, .int s_behind, .int s_settingsTold, .ref sslideNames, .ref spictures, .ref sheats, .ref safter, .ref shearerNames, .ref sneeds, .ref slikes, .ref shates, .ref snear])), (spictures, eI G 6 fs_pictures)]) C hw 2 rfl (x_in rfl) rfl rfl dX8_begin_64 (fun H locs hw => ?_)
  refine lv_iinc (v := 4) (lv' := [(2, .int 4), (0, .ref qa), (1, .ref qs)]) C.1 C.2.1 dX8_begin_65 hl (k := 0) rfl (by decide) (by decide) rfl (fun ls hl => ?_)
  refine lv_goto (tgt := 40) C.1 C.2.1 dX8_begin_68 (by decide) ?_
  refine lv_iload_n C.1 C.2.1 dX8_begin_40 rfl (lv_at hl 0 rfl) ?_
  refine lv_bipush (v := 6) C.1 C.2.1 dX8_begin_41 (by decide) ?_
  refine lv_icmp_ge (tgt := 71) C.1 C.2.1 dX8_begin_43 (by decide) (fun h9 => absurd h9 (by decide)) (fun _ => ?_)
  refine lv_aload_n C.1 C.2.1 dX8_begin_46 rfl (lv_at hl 1 rfl) ?_
  refine x_get C hw iwX8 7 rfl 0 rfl 8 (by decide) kw263 rfl dX8_begin_47 ?_
  refine lv_iload_n C.1 C.2.1 dX8_begin_50 rfl (lv_at hl 0 rfl) ?_
  refine lv_aload_n C.1 C.2.1 dX8_begin_51 rfl (lv_at hl 2 rfl) ?_
  refine x_get C hw iwX5 4 rfl 4 rfl 10 (by decide) kw174 rfl dX8_begin_52 ?_
  refine lv_iload_n C.1 C.2.1 dX8_begin_55 rfl (lv_at hl 0 rfl) ?_
  refine x_iald (v := (fs_pictures 4)) C hw 5 rfl (x_in rfl) rfl dX8_begin_56 ?_
  refine x_iast (f' := (upd (upd (upd (upd (upd fa_pictures 0 (fs_pictures 0)) 1 (fs_pictures 1)) 2 (fs_pictures 2)) 3 (fs_pictures 3)) 4 (fs_pictures 4))) (w' := [(qa, .inr (7, [.int 0, .int 0, .int 0, .int 0, .int 0, .int s_behind, .int 0, .int a_seed, .ref apictures, .ref ashown, .ref asighed])), (apictures, eI G 6 (upd (upd (upd (upd (upd fa_pictures 0 (fs_pictures 0)) 1 (fs_pictures 1)) 2 (fs_pictures 2)) 3 (fs_pictures 3)) 4 (fs_pictures 4))), (ashown, eI G 6 (upd (upd (upd (upd fa_shown 0 0) 1 0) 2 0) 3 0)), (asighed, eI G 8 fa_sighed), (qs, .inr (4, [.int s_slides, .int s_hearers, .int s_nears, .int s_lines, .int s_pass, .int s_spread, .int s_lamp, .int s_behind, .int s_settingsTold, .ref sslideNames, .ref spictures, .ref sheats, .ref safter, .ref shearerNames, .ref sneeds, .ref slikes, .ref shates, .ref snear])), (spictures, eI G 6 fs_pictures)]) C hw 1 rfl (x_in rfl) rfl rfl dX8_begin_57 (fun H locs hw => ?_)
  refine lv_aload_n C.1 C.2.1 dX8_begin_58 rfl (lv_at hl 1 rfl) ?_
  refine x_get C hw iwX8 7 rfl 0 rfl 9 (by decide) kw267 rfl dX8_begin_59 ?_
  refine lv_iload_n C.1 C.2.1 dX8_begin_62 rfl (lv_at hl 0 rfl) ?_
  refine lv_iconst (v := 0) C.1 C.2.1 dX8_begin_63 (by decide) ?_
  refine x_iast (f' := (upd (upd (upd (upd (upd fa_shown 0 0) 1 0) 2 0) 3 0) 4 0)) (w' := [(qa, .inr (7, [.int 0, .int 0, .int 0, .int 0, .int 0, .int s_behind, .int 0, .int a_seed, .ref apictures, .ref ashown, .ref asighed])), (apictures, eI G 6 (upd (upd (upd (upd (upd fa_pictures 0 (fs_pictures 0)) 1 (fs_pictures 1)) 2 (fs_pictures 2)) 3 (fs_pictures 3)) 4 (fs_pictures 4))), (ashown, eI G 6 (upd (upd (upd (upd (upd fa_shown 0 0) 1 0) 2 0) 3 0) 4 0)), (asighed, eI G 8 fa_sighed), (qs, .inr (4, [.int s_slides, .int s_hearers, .int s_nears, .int s_lines, .int s_pass, .int s_spread, .int s_lamp, .int s_behind, .int s_settingsTold, .ref sslideNames, .ref spictures, .ref sheats, .ref safter, .ref shearerNames, .ref sneeds, .ref slikes, .ref shates, .ref snear])), (spictures, eI G 6 fs_pictures)]) C hw 2 rfl (x_in rfl) rfl rfl dX8_begin_64 (fun H locs hw => ?_)
  refine lv_iinc (v := 5) (lv' := [(2, .int 5), (0, .ref qa), (1, .ref qs)]) C.1 C.2.1 dX8_begin_65 hl (k := 0) rfl (by decide) (by decide) rfl (fun ls hl => ?_)
  refine lv_goto (tgt := 40) C.1 C.2.1 dX8_begin_68 (by decide) ?_
  refine lv_iload_n C.1 C.2.1 dX8_begin_40 rfl (lv_at hl 0 rfl) ?_
  refine lv_bipush (v := 6) C.1 C.2.1 dX8_begin_41 (by decide) ?_
  refine lv_icmp_ge (tgt := 71) C.1 C.2.1 dX8_begin_43 (by decide) (fun h9 => absurd h9 (by decide)) (fun _ => ?_)
  refine lv_aload_n C.1 C.2.1 dX8_begin_46 rfl (lv_at hl 1 rfl) ?_
  refine x_get C hw iwX8 7 rfl 0 rfl 8 (by decide) kw263 rfl dX8_begin_47 ?_
  refine lv_iload_n C.1 C.2.1 dX8_begin_50 rfl (lv_at hl 0 rfl) ?_
  refine lv_aload_n C.1 C.2.1 dX8_begin_51 rfl (lv_at hl 2 rfl) ?_
  refine x_get C hw iwX5 4 rfl 4 rfl 10 (by decide) kw174 rfl dX8_begin_52 ?_
  refine lv_iload_n C.1 C.2.1 dX8_begin_55 rfl (lv_at hl 0 rfl) ?_
  refine x_iald (v := (fs_pictures 5)) C hw 5 rfl (x_in rfl) rfl dX8_begin_56 ?_
  refine x_iast (f' := (upd (upd (upd (upd (upd (upd fa_pictures 0 (fs_pictures 0)) 1 (fs_pictures 1)) 2 (fs_pictures 2)) 3 (fs_pictures 3)) 4 (fs_pictures 4)) 5 (fs_pictures 5))) (w' := [(qa, .inr (7, [.int 0, .int 0, .int 0, .int 0, .int 0, .int s_behind, .int 0, .int a_seed, .ref apictures, .ref ashown, .ref asighed])), (apictures, eI G 6 (upd (upd (upd (upd (upd (upd fa_pictures 0 (fs_pictures 0)) 1 (fs_pictures 1)) 2 (fs_pictures 2)) 3 (fs_pictures 3)) 4 (fs_pictures 4)) 5 (fs_pictures 5))), (ashown, eI G 6 (upd (upd (upd (upd (upd fa_shown 0 0) 1 0) 2 0) 3 0) 4 0)), (asighed, eI G 8 fa_sighed), (qs, .inr (4, [.int s_slides, .int s_hearers, .int s_nears, .int s_lines, .int s_pass, .int s_spread, .int s_lamp, .int s_behind, .int s_settingsTold, .ref sslideNames, .ref spictures, .ref sheats, .ref safter, .ref shearerNames, .ref sneeds, .ref slikes, .ref shates, .ref snear])), (spictures, eI G 6 fs_pictures)]) C hw 1 rfl (x_in rfl) rfl rfl dX8_begin_57 (fun H locs hw => ?_)
  refine lv_aload_n C.1 C.2.1 dX8_begin_58 rfl (lv_at hl 1 rfl) ?_
  refine x_get C hw iwX8 7 rfl 0 rfl 9 (by decide) kw267 rfl dX8_begin_59 ?_
  refine lv_iload_n C.1 C.2.1 dX8_begin_62 rfl (lv_at hl 0 rfl) ?_
  refine lv_iconst (v := 0) C.1 C.2.1 dX8_begin_63 (by decide) ?_
  refine x_iast (f' := (upd (upd (upd (upd (upd (upd fa_shown 0 0) 1 0) 2 0) 3 0) 4 0) 5 0)) (w' := [(qa, .inr (7, [.int 0, .int 0, .int 0, .int 0, .int 0, .int s_behind, .int 0, .int a_seed, .ref apictures, .ref ashown, .ref asighed])), (apictures, eI G 6 (upd (upd (upd (upd (upd (upd fa_pictures 0 (fs_pictures 0)) 1 (fs_pictures 1)) 2 (fs_pictures 2)) 3 (fs_pictures 3)) 4 (fs_pictures 4)) 5 (fs_pictures 5))), (ashown, eI G 6 (upd (upd (upd (upd (upd (upd fa_shown 0 0) 1 0) 2 0) 3 0) 4 0) 5 0)), (asighed, eI G 8 fa_sighed), (qs, .inr (4, [.int s_slides, .int s_hearers, .int s_nears, .int s_lines, .int s_pass, .int s_spread, .int s_lamp, .int s_behind, .int s_settingsTold, .ref sslideNames, .ref spictures, .ref sheats, .ref safter, .ref shearerNames, .ref sneeds, .ref slikes, .ref shates, .ref snear])), (spictures, eI G 6 fs_pictures)]) C hw 2 rfl (x_in rfl) rfl rfl dX8_begin_64 (fun H locs hw => ?_)
  refine lv_iinc (v := 6) (lv' := [(2, .int 6), (0, .ref qa), (1, .ref qs)]) C.1 C.2.1 dX8_begin_65 hl (k := 0) rfl (by decide) (by decide) rfl (fun ls hl => ?_)
  refine lv_goto (tgt := 40) C.1 C.2.1 dX8_begin_68 (by decide) ?_
  refine lv_iload_n C.1 C.2.1 dX8_begin_40 rfl (lv_at hl 0 rfl) ?_
  refine lv_bipush (v := 6) C.1 C.2.1 dX8_begin_41 (by decide) ?_
  refine lv_icmp_ge (tgt := 71) C.1 C.2.1 dX8_begin_43 (by decide) (fun _ => ?_) (fun h9 => absurd (by decide) h9)
  refine lv_iconst (v := 0) C.1 C.2.1 dX8_begin_71 (by decide) ?_
  refine lv_istore_n (lv' := [(2, .int 0), (0, .ref qa), (1, .ref qs)]) C.1 C.2.1 dX8_begin_72 rfl hl (by decide) rfl (fun ls hl => ?_)
  refine lv_iload_n C.1 C.2.1 dX8_begin_73 rfl (lv_at hl 0 rfl) ?_
  refine lv_bipush (v := 8) C.1 C.2.1 dX8_begin_74 (by decide) ?_
  refine lv_icmp_ge (tgt := 92) C.1 C.2.1 dX8_begin_76 (by decide) (fun h9 => absurd h9 (by decide)) (fun _ => ?_)
  refine lv_aload_n C.1 C.2.1 dX8_begin_79 rfl (lv_at hl 1 rfl) ?_
  refine x_get C hw iwX8 7 rfl 0 rfl 10 (by decide) kw269 rfl dX8_begin_80 ?_
  refine lv_iload_n C.1 C.2.1 dX8_begin_83 rfl (lv_at hl 0 rfl) ?_
  refine lv_iconst (v := 0) C.1 C.2.1 dX8_begin_84 (by decide) ?_
  refine x_iast (f' := (upd fa_sighed 0 0)) (w' := [(qa, .inr (7, [.int 0, .int 0, .int 0, .int 0, .int 0, .int s_behind, .int 0, .int a_seed, .ref apictures, .ref ashown, .ref asighed])), (apictures, eI G 6 (upd (upd (upd (upd (upd (upd fa_pictures 0 (fs_pictures 0)) 1 (fs_pictures 1)) 2 (fs_pictures 2)) 3 (fs_pictures 3)) 4 (fs_pictures 4)) 5 (fs_pictures 5))), (ashown, eI G 6 (upd (upd (upd (upd (upd (upd fa_shown 0 0) 1 0) 2 0) 3 0) 4 0) 5 0)), (asighed, eI G 8 (upd fa_sighed 0 0)), (qs, .inr (4, [.int s_slides, .int s_hearers, .int s_nears, .int s_lines, .int s_pass, .int s_spread, .int s_lamp, .int s_behind, .int s_settingsTold, .ref sslideNames, .ref spictures, .ref sheats, .ref safter, .ref shearerNames, .ref sneeds, .ref slikes, .ref shates, .ref snear])), (spictures, eI G 6 fs_pictures)]) C hw 3 rfl (x_in rfl) rfl rfl dX8_begin_85 (fun H locs hw => ?_)
  refine lv_iinc (v := 1) (lv' := [(2, .int 1), (0, .ref qa), (1, .ref qs)]) C.1 C.2.1 dX8_begin_86 hl (k := 0) rfl (by decide) (by decide) rfl (fun ls hl => ?_)
  refine lv_goto (tgt := 73) C.1 C.2.1 dX8_begin_89 (by decide) ?_
  refine lv_iload_n C.1 C.2.1 dX8_begin_73 rfl (lv_at hl 0 rfl) ?_
  refine lv_bipush (v := 8) C.1 C.2.1 dX8_begin_74 (by decide) ?_
  refine lv_icmp_ge (tgt := 92) C.1 C.2.1 dX8_begin_76 (by decide) (fun h9 => absurd h9 (by decide)) (fun _ => ?_)
  refine lv_aload_n C.1 C.2.1 dX8_begin_79 rfl (lv_at hl 1 rfl) ?_
  refine x_get C hw iwX8 7 rfl 0 rfl 10 (by decide) kw269 rfl dX8_begin_80 ?_
  refine lv_iload_n C.1 C.2.1 dX8_begin_83 rfl (lv_at hl 0 rfl) ?_
  refine lv_iconst (v := 0) C.1 C.2.1 dX8_begin_84 (by decide) ?_
  refine x_iast (f' := (upd (upd fa_sighed 0 0) 1 0)) (w' := [(qa, .inr (7, [.int 0, .int 0, .int 0, .int 0, .int 0, .int s_behind, .int 0, .int a_seed, .ref apictures, .ref ashown, .ref asighed])), (apictures, eI G 6 (upd (upd (upd (upd (upd (upd fa_pictures 0 (fs_pictures 0)) 1 (fs_pictures 1)) 2 (fs_pictures 2)) 3 (fs_pictures 3)) 4 (fs_pictures 4)) 5 (fs_pictures 5))), (ashown, eI G 6 (upd (upd (upd (upd (upd (upd fa_shown 0 0) 1 0) 2 0) 3 0) 4 0) 5 0)), (asighed, eI G 8 (upd (upd fa_sighed 0 0) 1 0)), (qs, .inr (4, [.int s_slides, .int s_hearers, .int s_nears, .int s_lines, .int s_pass, .int s_spread, .int s_lamp, .int s_behind, .int s_settingsTold, .ref sslideNames, .ref spictures, .ref sheats, .ref safter, .ref shearerNames, .ref sneeds, .ref slikes, .ref shates, .ref snear])), (spictures, eI G 6 fs_pictures)]) C hw 3 rfl (x_in rfl) rfl rfl dX8_begin_85 (fun H locs hw => ?_)
  refine lv_iinc (v := 2) (lv' := [(2, .int 2), (0, .ref qa), (1, .ref qs)]) C.1 C.2.1 dX8_begin_86 hl (k := 0) rfl (by decide) (by decide) rfl (fun ls hl => ?_)
  refine lv_goto (tgt := 73) C.1 C.2.1 dX8_begin_89 (by decide) ?_
  refine lv_iload_n C.1 C.2.1 dX8_begin_73 rfl (lv_at hl 0 rfl) ?_
  refine lv_bipush (v := 8) C.1 C.2.1 dX8_begin_74 (by decide) ?_
  refine lv_icmp_ge (tgt := 92) C.1 C.2.1 dX8_begin_76 (by decide) (fun h9 => absurd h9 (by decide)) (fun _ => ?_)
  refine lv_aload_n C.1 C.2.1 dX8_begin_79 rfl (lv_at hl 1 rfl) ?_
  refine x_get C hw iwX8 7 rfl 0 rfl 10 (by decide) kw269 rfl dX8_begin_80 ?_
  refine lv_iload_n C.1 C.2.1 dX8_begin_83 rfl (lv_at hl 0 rfl) ?_
  refine lv_iconst (v := 0) C.1 C.2.1 dX8_begin_84 (by decide) ?_
  refine x_iast (f' := (upd (upd (upd fa_sighed 0 0) 1 0) 2 0)) (w' := [(qa, .inr (7, [.int 0, .int 0, .int 0, .int 0, .int 0, .int s_behind, .int 0, .int a_seed, .ref apictures, .ref ashown, .ref asighed])), (apictures, eI G 6 (upd (upd (upd (upd (upd (upd fa_pictures 0 (fs_pictures 0)) 1 (fs_pictures 1)) 2 (fs_pictures 2)) 3 (fs_pictures 3)) 4 (fs_pictures 4)) 5 (fs_pictures 5))), (ashown, eI G 6 (upd (upd (upd (upd (upd (upd fa_shown 0 0) 1 0) 2 0) 3 0) 4 0) 5 0)), (asighed, eI G 8 (upd (upd (upd fa_sighed 0 0) 1 0) 2 0)), (qs, .inr (4, [.int s_slides, .int s_hearers, .int s_nears, .int s_lines, .int s_pass, .int s_spread, .int s_lamp, .int s_behind, .int s_settingsTold, .ref sslideNames, .ref spictures, .ref sheats, .ref safter, .ref shearerNames, .ref sneeds, .ref slikes, .ref shates, .ref snear])), (spictures, eI G 6 fs_pictures)]) C hw 3 rfl (x_in rfl) rfl rfl dX8_begin_85 (fun H locs hw => ?_)
  refine lv_iinc (v := 3) (lv' := [(2, .int 3), (0, .ref qa), (1, .ref qs)]) C.1 C.2.1 dX8_begin_86 hl (k := 0) rfl (by decide) (by decide) rfl (fun ls hl => ?_)
  refine lv_goto (tgt := 73) C.1 C.2.1 dX8_begin_89 (by decide) ?_
  refine lv_iload_n C.1 C.2.1 dX8_begin_73 rfl (lv_at hl 0 rfl) ?_
  refine lv_bipush (v := 8) C.1 C.2.1 dX8_begin_74 (by decide) ?_
  refine lv_icmp_ge (tgt := 92) C.1 C.2.1 dX8_begin_76 (by decide) (fun h9 => absurd h9 (by decide)) (fun _ => ?_)
  refine lv_aload_n C.1 C.2.1 dX8_begin_79 rfl (lv_at hl 1 rfl) ?_
  refine x_get C hw iwX8 7 rfl 0 rfl 10 (by decide) kw269 rfl dX8_begin_80 ?_
  refine lv_iload_n C.1 C.2.1 dX8_begin_83 rfl (lv_at hl 0 rfl) ?_
  refine lv_iconst (v := 0) C.1 C.2.1 dX8_begin_84 (by decide) ?_
  refine x_iast (f' := (upd (upd (upd (upd fa_sighed 0 0) 1 0) 2 0) 3 0)) (w' := [(qa, .inr (7, [.int 0, .int 0, .int 0, .int 0, .int 0, .int s_behind, .int 0, .int a_seed, .ref apictures, .ref ashown, .ref asighed])), (apictures, eI G 6 (upd (upd (upd (upd (upd (upd fa_pictures 0 (fs_pictures 0)) 1 (fs_pictures 1)) 2 (fs_pictures 2)) 3 (fs_pictures 3)) 4 (fs_pictures 4)) 5 (fs_pictures 5))), (ashown, eI G 6 (upd (upd (upd (upd (upd (upd fa_shown 0 0) 1 0) 2 0) 3 0) 4 0) 5 0)), (asighed, eI G 8 (upd (upd (upd (upd fa_sighed 0 0) 1 0) 2 0) 3 0)), (qs, .inr (4, [.int s_slides, .int s_hearers, .int s_nears, .int s_lines, .int s_pass, .int s_spread, .int s_lamp, .int s_behind, .int s_settingsTold, .ref sslideNames, .ref spictures, .ref sheats, .ref safter, .ref shearerNames, .ref sneeds, .ref slikes, .ref shates, .ref snear])), (spictures, eI G 6 fs_pictures)]) C hw 3 rfl (x_in rfl) rfl rfl dX8_begin_85 (fun H locs hw => ?_)
  refine lv_iinc (v := 4) (lv' := [(2, .int 4), (0, .ref qa), (1, .ref qs)]) C.1 C.2.1 dX8_begin_86 hl (k := 0) rfl (by decide) (by decide) rfl (fun ls hl => ?_)
  refine lv_goto (tgt := 73) C.1 C.2.1 dX8_begin_89 (by decide) ?_
  refine lv_iload_n C.1 C.2.1 dX8_begin_73 rfl (lv_at hl 0 rfl) ?_
  refine lv_bipush (v := 8) C.1 C.2.1 dX8_begin_74 (by decide) ?_
  refine lv_icmp_ge (tgt := 92) C.1 C.2.1 dX8_begin_76 (by decide) (fun h9 => absurd h9 (by decide)) (fun _ => ?_)
  refine lv_aload_n C.1 C.2.1 dX8_begin_79 rfl (lv_at hl 1 rfl) ?_
  refine x_get C hw iwX8 7 rfl 0 rfl 10 (by decide) kw269 rfl dX8_begin_80 ?_
  refine lv_iload_n C.1 C.2.1 dX8_begin_83 rfl (lv_at hl 0 rfl) ?_
  refine lv_iconst (v := 0) C.1 C.2.1 dX8_begin_84 (by decide) ?_
  refine x_iast (f' := (upd (upd (upd (upd (upd fa_sighed 0 0) 1 0) 2 0) 3 0) 4 0)) (w' := [(qa, .inr (7, [.int 0, .int 0, .int 0, .int 0, .int 0, .int s_behind, .int 0, .int a_seed, .ref apictures, .ref ashown, .ref asighed])), (apictures, eI G 6 (upd (upd (upd (upd (upd (upd fa_pictures 0 (fs_pictures 0)) 1 (fs_pictures 1)) 2 (fs_pictures 2)) 3 (fs_pictures 3)) 4 (fs_pictures 4)) 5 (fs_pictures 5))), (ashown, eI G 6 (upd (upd (upd (upd (upd (upd fa_shown 0 0) 1 0) 2 0) 3 0) 4 0) 5 0)), (asighed, eI G 8 (upd (upd (upd (upd (upd fa_sighed 0 0) 1 0) 2 0) 3 0) 4 0)), (qs, .inr (4, [.int s_slides, .int s_hearers, .int s_nears, .int s_lines, .int s_pass, .int s_spread, .int s_lamp, .int s_behind, .int s_settingsTold, .ref sslideNames, .ref spictures, .ref sheats, .ref safter, .ref shearerNames, .ref sneeds, .ref slikes, .ref shates, .ref snear])), (spictures, eI G 6 fs_pictures)]) C hw 3 rfl (x_in rfl) rfl rfl dX8_begin_85 (fun H locs hw => ?_)
  refine lv_iinc (v := 5) (lv' := [(2, .int 5), (0, .ref qa), (1, .ref qs)]) C.1 C.2.1 dX8_begin_86 hl (k := 0) rfl (by decide) (by decide) rfl (fun ls hl => ?_)
  refine lv_goto (tgt := 73) C.1 C.2.1 dX8_begin_89 (by decide) ?_
  refine lv_iload_n C.1 C.2.1 dX8_begin_73 rfl (lv_at hl 0 rfl) ?_
  refine lv_bipush (v := 8) C.1 C.2.1 dX8_begin_74 (by decide) ?_
  refine lv_icmp_ge (tgt := 92) C.1 C.2.1 dX8_begin_76 (by decide) (fun h9 => absurd h9 (by decide)) (fun _ => ?_)
  refine lv_aload_n C.1 C.2.1 dX8_begin_79 rfl (lv_at hl 1 rfl) ?_
  refine x_get C hw iwX8 7 rfl 0 rfl 10 (by decide) kw269 rfl dX8_begin_80 ?_
  refine lv_iload_n C.1 C.2.1 dX8_begin_83 rfl (lv_at hl 0 rfl) ?_
  refine lv_iconst (v := 0) C.1 C.2.1 dX8_begin_84 (by decide) ?_
  refine x_iast (f' := (upd (upd (upd (upd (upd (upd fa_sighed 0 0) 1 0) 2 0) 3 0) 4 0) 5 0)) (w' := [(qa, .inr (7, [.int 0, .int 0, .int 0, .int 0, .int 0, .int s_behind, .int 0, .int a_seed, .ref apictures, .ref ashown, .ref asighed])), (apictures, eI G 6 (upd (upd (upd (upd (upd (upd fa_pictures 0 (fs_pictures 0)) 1 (fs_pictures 1)) 2 (fs_pictures 2)) 3 (fs_pictures 3)) 4 (fs_pictures 4)) 5 (fs_pictures 5))), (ashown, eI G 6 (upd (upd (upd (upd (upd (upd fa_shown 0 0) 1 0) 2 0) 3 0) 4 0) 5 0)), (asighed, eI G 8 (upd (upd (upd (upd (upd (upd fa_sighed 0 0) 1 0) 2 0) 3 0) 4 0) 5 0)), (qs, .inr (4, [.int s_slides, .int s_hearers, .int s_nears, .int s_lines, .int s_pass, .int s_spread, .int s_lamp, .int s_behind, .int s_settingsTold, .ref sslideNames, .ref spictures, .ref sheats, .ref safter, .ref shearerNames, .ref sneeds, .ref slikes, .ref shates, .ref snear])), (spictures, eI G 6 fs_pictures)]) C hw 3 rfl (x_in rfl) rfl rfl dX8_begin_85 (fun H locs hw => ?_)
  refine lv_iinc (v := 6) (lv' := [(2, .int 6), (0, .ref qa), (1, .ref qs)]) C.1 C.2.1 dX8_begin_86 hl (k := 0) rfl (by decide) (by decide) rfl (fun ls hl => ?_)
  refine lv_goto (tgt := 73) C.1 C.2.1 dX8_begin_89 (by decide) ?_
  refine lv_iload_n C.1 C.2.1 dX8_begin_73 rfl (lv_at hl 0 rfl) ?_
  refine lv_bipush (v := 8) C.1 C.2.1 dX8_begin_74 (by decide) ?_
  refine lv_icmp_ge (tgt := 92) C.1 C.2.1 dX8_begin_76 (by decide) (fun h9 => absurd h9 (by decide)) (fun _ => ?_)
  refine lv_aload_n C.1 C.2.1 dX8_begin_79 rfl (lv_at hl 1 rfl) ?_
  refine x_get C hw iwX8 7 rfl 0 rfl 10 (by decide) kw269 rfl dX8_begin_80 ?_
  refine lv_iload_n C.1 C.2.1 dX8_begin_83 rfl (lv_at hl 0 rfl) ?_
  refine lv_iconst (v := 0) C.1 C.2.1 dX8_begin_84 (by decide) ?_
  refine x_iast (f' := (upd (upd (upd (upd (upd (upd (upd fa_sighed 0 0) 1 0) 2 0) 3 0) 4 0) 5 0) 6 0)) (w' := [(qa, .inr (7, [.int 0, .int 0, .int 0, .int 0, .int 0, .int s_behind, .int 0, .int a_seed, .ref apictures, .ref ashown, .ref asighed])), (apictures, eI G 6 (upd (upd (upd (upd (upd (upd fa_pictures 0 (fs_pictures 0)) 1 (fs_pictures 1)) 2 (fs_pictures 2)) 3 (fs_pictures 3)) 4 (fs_pictures 4)) 5 (fs_pictures 5))), (ashown, eI G 6 (upd (upd (upd (upd (upd (upd fa_shown 0 0) 1 0) 2 0) 3 0) 4 0) 5 0)), (asighed, eI G 8 (upd (upd (upd (upd (upd (upd (upd fa_sighed 0 0) 1 0) 2 0) 3 0) 4 0) 5 0) 6 0)), (qs, .inr (4, [.int s_slides, .int s_hearers, .int s_nears, .int s_lines, .int s_pass, .int s_spread, .int s_lamp, .int s_behind, .int s_settingsTold, .ref sslideNames, .ref spictures, .ref sheats, .ref safter, .ref shearerNames, .ref sneeds, .ref slikes, .ref shates, .ref snear])), (spictures, eI G 6 fs_pictures)]) C hw 3 rfl (x_in rfl) rfl rfl dX8_begin_85 (fun H locs hw => ?_)
  refine lv_iinc (v := 7) (lv' := [(2, .int 7), (0, .ref qa), (1, .ref qs)]) C.1 C.2.1 dX8_begin_86 hl (k := 0) rfl (by decide) (by decide) rfl (fun ls hl => ?_)
  refine lv_goto (tgt := 73) C.1 C.2.1 dX8_begin_89 (by decide) ?_
  refine lv_iload_n C.1 C.2.1 dX8_begin_73 rfl (lv_at hl 0 rfl) ?_
  refine lv_bipush (v := 8) C.1 C.2.1 dX8_begin_74 (by decide) ?_
  refine lv_icmp_ge (tgt := 92) C.1 C.2.1 dX8_begin_76 (by decide) (fun h9 => absurd h9 (by decide)) (fun _ => ?_)
  refine lv_aload_n C.1 C.2.1 dX8_begin_79 rfl (lv_at hl 1 rfl) ?_
  refine x_get C hw iwX8 7 rfl 0 rfl 10 (by decide) kw269 rfl dX8_begin_80 ?_
  refine lv_iload_n C.1 C.2.1 dX8_begin_83 rfl (lv_at hl 0 rfl) ?_
  refine lv_iconst (v := 0) C.1 C.2.1 dX8_begin_84 (by decide) ?_
  refine x_iast (f' := (upd (upd (upd (upd (upd (upd (upd (upd fa_sighed 0 0) 1 0) 2 0) 3 0) 4 0) 5 0) 6 0) 7 0)) (w' := [(qa, .inr (7, [.int 0, .int 0, .int 0, .int 0, .int 0, .int s_behind, .int 0, .int a_seed, .ref apictures, .ref ashown, .ref asighed])), (apictures, eI G 6 (upd (upd (upd (upd (upd (upd fa_pictures 0 (fs_pictures 0)) 1 (fs_pictures 1)) 2 (fs_pictures 2)) 3 (fs_pictures 3)) 4 (fs_pictures 4)) 5 (fs_pictures 5))), (ashown, eI G 6 (upd (upd (upd (upd (upd (upd fa_shown 0 0) 1 0) 2 0) 3 0) 4 0) 5 0)), (asighed, eI G 8 (upd (upd (upd (upd (upd (upd (upd (upd fa_sighed 0 0) 1 0) 2 0) 3 0) 4 0) 5 0) 6 0) 7 0)), (qs, .inr (4, [.int s_slides, .int s_hearers, .int s_nears, .int s_lines, .int s_pass, .int s_spread, .int s_lamp, .int s_behind, .int s_settingsTold, .ref sslideNames, .ref spictures, .ref sheats, .ref safter, .ref shearerNames, .ref sneeds, .ref slikes, .ref shates, .ref snear])), (spictures, eI G 6 fs_pictures)]) C hw 3 rfl (x_in rfl) rfl rfl dX8_begin_85 (fun H locs hw => ?_)
  refine lv_iinc (v := 8) (lv' := [(2, .int 8), (0, .ref qa), (1, .ref qs)]) C.1 C.2.1 dX8_begin_86 hl (k := 0) rfl (by decide) (by decide) rfl (fun ls hl => ?_)
  refine lv_goto (tgt := 73) C.1 C.2.1 dX8_begin_89 (by decide) ?_
  refine lv_iload_n C.1 C.2.1 dX8_begin_73 rfl (lv_at hl 0 rfl) ?_
  refine lv_bipush (v := 8) C.1 C.2.1 dX8_begin_74 (by decide) ?_
  refine lv_icmp_ge (tgt := 92) C.1 C.2.1 dX8_begin_76 (by decide) (fun _ => ?_) (fun h9 => absurd (by decide) h9)
  exact x_retv B hw ⟨(upd (upd (upd (upd (upd (upd fa_pictures 0 (fs_pictures 0)) 1 (fs_pictures 1)) 2 (fs_pictures 2)) 3 (fs_pictures 3)) 4 (fs_pictures 4)) 5 (fs_pictures 5)), (upd (upd (upd (upd (upd (upd fa_shown 0 0) 1 0) 2 0) 3 0) 4 0) 5 0), (upd (upd (upd (upd (upd (upd (upd (upd fa_sighed 0 0) 1 0) 2 0) 3 0) 4 0) 5 0) 6 0) 7 0), rfl⟩ (Nat.le_of_ble_eq_true rfl) (Nat.le_of_ble_eq_true rfl) dX8_begin_92
theorem dX2_clear_0 : decode cX2_clear 0 = .ok (.aload_n 0, 1) := by decide +kernel
theorem dX2_clear_1 : decode cX2_clear 1 = .ok (.iconst 0, 1) := by decide +kernel
theorem dX2_clear_2 : decode cX2_clear 2 = .ok (.putfield 18, 3) := by decide +kernel
theorem dX2_clear_5 : decode cX2_clear 5 = .ok (.return_, 1) := by decide +kernel
set_option maxHeartbeats 4000000 in
set_option maxRecDepth 100000 in
theorem c_X2_clear {l : Launch} {G : Gc} (qh : Nat) (hk : Nat) (hf_ : Int32) (hs_ : Int32)  : Cv l yX2_clear cX2_clear 1 0 0 0 G [.ref qh] [(qh, .inr (2, [.ref hk, .int hf_, .int hs_]))] (fun (u9 : va_W) => u9 = [(qh, .inr (2, [.ref hk, .int hf_, .int 0]))]) := by
  refine Cv.of (by decide) (Nat.le_of_ble_eq_true rfl) ?_
  intro p e s m below meth c ls A B hw hl
  have C : CallFix p m c cX2_clear 1 s _ gw "LanternState$History" := B.1
  have hl : lv_has ls 1 [(0, .ref qh)] := hl
  refine lv_aload_n C.1 C.2.1 dX2_clear_0 rfl (lv_at hl 0 rfl) ?_
  refine lv_iconst (v := 0) C.1 C.2.1 dX2_clear_1 (by decide) ?_
  refine x_put (w' := [(qh, .inr (2, [.ref hk, .int hf_, .int 0]))]) C hw iwX2 tyX2_ok nmX2 2 rfl 0 rfl 2 (by decide) kw305 rfl rfl rfl (Nat.le_of_ble_eq_true rfl) rfl dX2_clear_2 (fun H locs hw => ?_)
  exact x_retv B hw rfl (Nat.le_of_ble_eq_true rfl) (Nat.le_of_ble_eq_true rfl) dX2_clear_5
theorem dX10_session_0 : decode cX10_session 0 = .ok (.aload_n 0, 1) := by decide +kernel
theorem dX10_session_1 : decode cX10_session 1 = .ok (.getfield 10, 3) := by decide +kernel
theorem dX10_session_4 : decode cX10_session 4 = .ok (.sipush 900, 3) := by decide +kernel
theorem dX10_session_7 : decode cX10_session 7 = .ok (.invokevirtual 99, 3) := by decide +kernel
theorem mwX9_open : MwV yX9_open cX9_open 2 none 1 := ⟨⟨kw517, kw2, by decide +kernel⟩, kw515, kw516⟩
theorem dX10_session_10 : decode cX10_session 10 = .ok (.aload_n 0, 1) := by decide +kernel
theorem dX10_session_11 : decode cX10_session 11 = .ok (.getfield 23, 3) := by decide +kernel
theorem dX10_session_14 : decode cX10_session 14 = .ok (.aload_n 0, 1) := by decide +kernel
theorem dX10_session_15 : decode cX10_session 15 = .ok (.getfield 10, 3) := by decide +kernel
theorem dX10_session_18 : decode cX10_session 18 = .ok (.invokevirtual 102, 3) := by decide +kernel
theorem mwX5_read : MwV yX5_read cX5_read 2 (some .boolean) 1 := ⟨⟨kw521, kw7, by decide +kernel⟩, kw519, kw520⟩
theorem dX10_session_21 : decode cX10_session 21 = .ok (.istore_n 1, 1) := by decide +kernel
theorem dX10_session_22 : decode cX10_session 22 = .ok (.aload_n 0, 1) := by decide +kernel
theorem dX10_session_23 : decode cX10_session 23 = .ok (.invokevirtual 106, 3) := by decide +kernel
theorem mwX10_closeText : MwV yX10_closeText cX10_closeText 1 none 0 := ⟨⟨kw625, kw1, by decide +kernel⟩, kw624, kS12⟩
theorem dX10_session_26 : decode cX10_session 26 = .ok (.iload_n 1, 1) := by decide +kernel
theorem dX10_session_27 : decode cX10_session 27 = .ok (.ifCond .ne 13, 3) := by decide +kernel
theorem dX10_session_40 : decode cX10_session 40 = .ok (.aload_n 0, 1) := by decide +kernel
theorem dX10_session_41 : decode cX10_session 41 = .ok (.getfield 19, 3) := by decide +kernel
theorem dX10_session_44 : decode cX10_session 44 = .ok (.aload_n 0, 1) := by decide +kernel
theorem dX10_session_45 : decode cX10_session 45 = .ok (.getfield 23, 3) := by decide +kernel
theorem dX10_session_48 : decode cX10_session 48 = .ok (.invokevirtual 112, 3) := by decide +kernel
theorem mwX5_copyFrom : MwV yX5_copyFrom cX5_copyFrom 2 none 1 := ⟨⟨kw629, kw7, by decide +kernel⟩, kw627, kw628⟩
theorem dX10_session_51 : decode cX10_session 51 = .ok (.aload_n 0, 1) := by decide +kernel
theorem dX10_session_52 : decode cX10_session 52 = .ok (.getfield 29, 3) := by decide +kernel
theorem dX10_session_55 : decode cX10_session 55 = .ok (.aload_n 0, 1) := by decide +kernel
theorem dX10_session_56 : decode cX10_session 56 = .ok (.getfield 19, 3) := by decide +kernel
theorem dX10_session_59 : decode cX10_session 59 = .ok (.invokevirtual 116, 3) := by decide +kernel
theorem mwX8_begin : MwV yX8_begin cX8_begin 3 none 1 := ⟨⟨kw636, kw8, by decide +kernel⟩, kw634, kw635⟩
theorem dX10_session_62 : decode cX10_session 62 = .ok (.aload_n 0, 1) := by decide +kernel
theorem dX10_session_63 : decode cX10_session 63 = .ok (.getfield 46, 3) := by decide +kernel
theorem dX10_session_66 : decode cX10_session 66 = .ok (.iconst 0, 1) := by decide +kernel
theorem dX10_session_67 : decode cX10_session 67 = .ok (.putfield 119, 3) := by decide +kernel
theorem dX10_session_70 : decode cX10_session 70 = .ok (.aload_n 0, 1) := by decide +kernel
theorem dX10_session_71 : decode cX10_session 71 = .ok (.getfield 39, 3) := by decide +kernel
theorem dX10_session_74 : decode cX10_session 74 = .ok (.invokevirtual 123, 3) := by decide +kernel
theorem mwX2_clear : MwV yX2_clear cX2_clear 1 none 0 := ⟨⟨kw640, kw9, by decide +kernel⟩, kw638, kw639⟩
theorem dX10_session_77 : decode cX10_session 77 = .ok (.aload_n 0, 1) := by decide +kernel
theorem dX10_session_78 : decode cX10_session 78 = .ok (.getfield 19, 3) := by decide +kernel
theorem dX10_session_81 : decode cX10_session 81 = .ok (.getfield 126, 3) := by decide +kernel
theorem dX10_session_84 : decode cX10_session 84 = .ok (.ireturn, 1) := by decide +kernel
set_option maxHeartbeats 4000000 in
set_option maxRecDepth 100000 in
theorem c_X10_session {l : Launch} {G : Gc} (qx : Nat) (qt : Nat) (qs : Nat) (qd : Nat) (qa : Nat) (qb : Nat) (qh : Nat) (qr : Nat) (qe : Nat) (qp : Nat) (qf : Nat) (qn : Nat) (qi : Nat) (qo : Nat) (kc : Nat) (bys : Nat) (dslideNames : Nat) (dpictures : Nat) (dheats : Nat) (dafter : Nat) (dhearerNames : Nat) (dneeds : Nat) (dlikes : Nat) (dhates : Nat) (dnear : Nat) (sslideNames : Nat) (spictures : Nat) (sheats : Nat) (safter : Nat) (shearerNames : Nat) (sneeds : Nat) (slikes : Nat) (shates : Nat) (snear : Nat) (apictures : Nat) (ashown : Nat) (asighed : Nat) (rkeys : Nat) (rsigns : Nat) (rnumbers : Nat) (rstack : Nat) (hk : Nat)  : Ci l yX10_session cX10_session 2 (some .int) 4 0 0 G [.ref qx] [(qx, .inr (9, [.ref qt, .ref qs, .ref qd, .ref qa, .ref qb, .ref qh, .ref qr, .ref qe, .ref qp, .ref qf, .ref qn, .ref qi, .ref qo, .int 0, .int 0, .int (-1), .int (-1)])), (qt, .inr (8, [.ref kc, .ref bys, .int 0, .int 0, .int 0, .int 0, .int 0, .int 0, .long 0, .int 0, .int 0, .int 0])), (qd, .inr (4, [.int 0, .int 0, .int 0, .int 0, .int 1, .int 0, .int 40, .int 0, .int 0, .ref dslideNames, .ref dpictures, .ref dheats, .ref dafter, .ref dhearerNames, .ref dneeds, .ref dlikes, .ref dhates, .ref dnear])), (dslideNames, eJ G 6 (fun _ => 0)), (dpictures, eI G 6 (fun _ => 0)), (dheats, eI G 6 (fun _ => 0)), (dafter, eI G 6 (fun _ => 0)), (dhearerNames, eJ G 8 (fun _ => 0)), (dneeds, eI G 8 (fun _ => 0)), (dlikes, eI G 8 (fun _ => 0)), (dhates, eI G 8 (fun _ => 0)), (dnear, eI G 8 (fun _ => 0)), (qs, .inr (4, [.int 0, .int 0, .int 0, .int 0, .int 1, .int 0, .int 40, .int 0, .int 0, .ref sslideNames, .ref spictures, .ref sheats, .ref safter, .ref shearerNames, .ref sneeds, .ref slikes, .ref shates, .ref snear])), (sslideNames, eJ G 6 (fun _ => 0)), (spictures, eI G 6 (fun _ => 0)), (sheats, eI G 6 (fun _ => 0)), (safter, eI G 6 (fun _ => 0)), (shearerNames, eJ G 8 (fun _ => 0)), (sneeds, eI G 8 (fun _ => 0)), (slikes, eI G 8 (fun _ => 0)), (shates, eI G 8 (fun _ => 0)), (snear, eI G 8 (fun _ => 0)), (qa, .inr (7, [.int 0, .int 0, .int 0, .int 0, .int 0, .int 0, .int 0, .int 0, .ref apictures, .ref ashown, .ref asighed])), (apictures, eI G 6 (fun _ => 0)), (ashown, eI G 6 (fun _ => 0)), (asighed, eI G 8 (fun _ => 0)), (qr, .inr (6, [.int 0, .int 0, .int 0, .ref rkeys, .ref rsigns, .ref rnumbers, .ref rstack])), (qh, .inr (2, [.ref hk, .int 0, .int 0]))] (fun (r9 : Int32) (u9 : va_W) => r9 = 0 ∧ u9 = []) := by
  refine Ci.of (by decide) (Nat.le_of_ble_eq_true rfl) ?_
  intro p e s m below meth c ls A B hw hl
  have C : CallFix p m c cX10_session 2 s _ gw "LanternState" := B.1
  have hl : lv_has ls 2 [(0, .ref qx)] := hl
  refine lv_aload_n C.1 C.2.1 dX10_session_0 rfl (lv_at hl 0 rfl) ?_
  refine x_get C hw iwX10 9 rfl 0 rfl 0 (by decide) kw446 rfl dX10_session_1 ?_
  refine lv_sipush (v := 900) C.1 C.2.1 dX10_session_4 (by decide) ?_
  refine x_callvV (As := [.int 900]) (rest := []) (wr := [(qx, .inr (9, [.ref qt, .ref qs, .ref qd, .ref qa, .ref qb, .ref qh, .ref qr, .ref qe, .ref qp, .ref qf, .ref qn, .ref qi, .ref qo, .int 0, .int 0, .int (-1), .int (-1)])), (qd, .inr (4, [.int 0, .int 0, .int 0, .int 0, .int 1, .int 0, .int 40, .int 0, .int 0, .ref dslideNames, .ref dpictures, .ref dheats, .ref dafter, .ref dhearerNames, .ref dneeds, .ref dlikes, .ref dhates, .ref dnear])), (dslideNames, eJ G 6 (fun _ => 0)), (dpictures, eI G 6 (fun _ => 0)), (dheats, eI G 6 (fun _ => 0)), (dafter, eI G 6 (fun _ => 0)), (dhearerNames, eJ G 8 (fun _ => 0)), (dneeds, eI G 8 (fun _ => 0)), (dlikes, eI G 8 (fun _ => 0)), (dhates, eI G 8 (fun _ => 0)), (dnear, eI G 8 (fun _ => 0)), (qs, .inr (4, [.int 0, .int 0, .int 0, .int 0, .int 1, .int 0, .int 40, .int 0, .int 0, .ref sslideNames, .ref spictures, .ref sheats, .ref safter, .ref shearerNames, .ref sneeds, .ref slikes, .ref shates, .ref snear])), (sslideNames, eJ G 6 (fun _ => 0)), (spictures, eI G 6 (fun _ => 0)), (sheats, eI G 6 (fun _ => 0)), (safter, eI G 6 (fun _ => 0)), (shearerNames, eJ G 8 (fun _ => 0)), (sneeds, eI G 8 (fun _ => 0)), (slikes, eI G 8 (fun _ => 0)), (shates, eI G 8 (fun _ => 0)), (snear, eI G 8 (fun _ => 0)), (qa, .inr (7, [.int 0, .int 0, .int 0, .int 0, .int 0, .int 0, .int 0, .int 0, .ref apictures, .ref ashown, .ref asighed])), (apictures, eI G 6 (fun _ => 0)), (ashown, eI G 6 (fun _ => 0)), (asighed, eI G 8 (fun _ => 0)), (qr, .inr (6, [.int 0, .int 0, .int 0, .ref rkeys, .ref rsigns, .ref rnumbers, .ref rstack])), (qh, .inr (2, [.ref hk, .int 0, .int 0]))]) C hw (c_X9_open qt 900 kc bys 0 0 0 0 0 0 0 0 0 0) mwX9_open kw514 [1] [0, 2, 3, 4, 5, 6, 7, 8, 9, 10, 11, 12, 13, 14, 15, 16, 17, 18, 19, 20, 21, 22, 23, 24, 25, 26, 27] rfl rfl rfl rfl (by decide) 0 rfl rfl rfl rfl hl.1 rfl (Nat.le_of_ble_eq_true rfl) ⟨(Nat.le_of_ble_eq_true rfl), (Nat.le_of_ble_eq_true rfl)⟩ ⟨(Nat.le_of_ble_eq_true rfl), (Nat.le_of_ble_eq_true rfl)⟩ dX10_session_7 (fun  u9 H locs hp9 hw => ?_)
  obtain rfl := hp9
  have hw : Wd G s A [(qx, .inr (9, [.ref qt, .ref qs, .ref qd, .ref qa, .ref qb, .ref qh, .ref qr, .ref qe, .ref qp, .ref qf, .ref qn, .ref qi, .ref qo, .int 0, .int 0, .int (-1), .int (-1)])), (qd, .inr (4, [.int 0, .int 0, .int 0, .int 0, .int 1, .int 0, .int 40, .int 0, .int 0, .ref dslideNames, .ref dpictures, .ref dheats, .ref dafter, .ref dhearerNames, .ref dneeds, .ref dlikes, .ref dhates, .ref dnear])), (dslideNames, eJ G 6 (fun _ => 0)), (dpictures, eI G 6 (fun _ => 0)), (dheats, eI G 6 (fun _ => 0)), (dafter, eI G 6 (fun _ => 0)), (dhearerNames, eJ G 8 (fun _ => 0)), (dneeds, eI G 8 (fun _ => 0)), (dlikes, eI G 8 (fun _ => 0)), (dhates, eI G 8 (fun _ => 0)), (dnear, eI G 8 (fun _ => 0)), (qs, .inr (4, [.int 0, .int 0, .int 0, .int 0, .int 1, .int 0, .int 40, .int 0, .int 0, .ref sslideNames, .ref spictures, .ref sheats, .ref safter, .ref shearerNames, .ref sneeds, .ref slikes, .ref shates, .ref snear])), (sslideNames, eJ G 6 (fun _ => 0)), (spictures, eI G 6 (fun _ => 0)), (sheats, eI G 6 (fun _ => 0)), (safter, eI G 6 (fun _ => 0)), (shearerNames, eJ G 8 (fun _ => 0)), (sneeds, eI G 8 (fun _ => 0)), (slikes, eI G 8 (fun _ => 0)), (shates, eI G 8 (fun _ => 0)), (snear, eI G 8 (fun _ => 0)), (qa, .inr (7, [.int 0, .int 0, .int 0, .int 0, .int 0, .int 0, .int 0, .int 0, .ref apictures, .ref ashown, .ref asighed])), (apictures, eI G 6 (fun _ => 0)), (ashown, eI G 6 (fun _ => 0)), (asighed, eI G 8 (fun _ => 0)), (qr, .inr (6, [.int 0, .int 0, .int 0, .ref rkeys, .ref rsigns, .ref rnumbers, .ref rstack])), (qh, .inr (2, [.ref hk, .int 0, .int 0])), (qt, .inr (8, [.ref kc, .ref bys, .int 0, .int 900, .int 0, .int 0, .int 0, .int 0, .long 0, .int 0, .int 0, .int 0]))] H _ := hw
  refine lv_aload_n C.1 C.2.1 dX10_session_10 rfl (lv_at hl 0 rfl) ?_
  refine x_get C hw iwX10 9 rfl 0 rfl 2 (by decide) kw448 rfl dX10_session_11 ?_
  refine lv_aload_n C.1 C.2.1 dX10_session_14 rfl (lv_at hl 0 rfl) ?_
  refine x_get C hw iwX10 9 rfl 0 rfl 0 (by decide) kw446 rfl dX10_session_15 ?_
  refine x_calliV (As := [.ref qt]) (rest := []) (wr := [(qx, .inr (9, [.ref qt, .ref qs, .ref qd, .ref qa, .ref qb, .ref qh, .ref qr, .ref qe, .ref qp, .ref qf, .ref qn, .ref qi, .ref qo, .int 0, .int 0, .int (-1), .int (-1)])), (dslideNames, eJ G 6 (fun _ => 0)), (dpictures, eI G 6 (fun _ => 0)), (dheats, eI G 6 (fun _ => 0)), (dafter, eI G 6 (fun _ => 0)), (dhearerNames, eJ G 8 (fun _ => 0)), (dneeds, eI G 8 (fun _ => 0)), (dlikes, eI G 8 (fun _ => 0)), (dhates, eI G 8 (fun _ => 0)), (dnear, eI G 8 (fun _ => 0)), (qs, .inr (4, [.int 0, .int 0, .int 0, .int 0, .int 1, .int 0, .int 40, .int 0, .int 0, .ref sslideNames, .ref spictures, .ref sheats, .ref safter, .ref shearerNames, .ref sneeds, .ref slikes, .ref shates, .ref snear])), (sslideNames, eJ G 6 (fun _ => 0)), (spictures, eI G 6 (fun _ => 0)), (sheats, eI G 6 (fun _ => 0)), (safter, eI G 6 (fun _ => 0)), (shearerNames, eJ G 8 (fun _ => 0)), (sneeds, eI G 8 (fun _ => 0)), (slikes, eI G 8 (fun _ => 0)), (shates, eI G 8 (fun _ => 0)), (snear, eI G 8 (fun _ => 0)), (qa, .inr (7, [.int 0, .int 0, .int 0, .int 0, .int 0, .int 0, .int 0, .int 0, .ref apictures, .ref ashown, .ref asighed])), (apictures, eI G 6 (fun _ => 0)), (ashown, eI G 6 (fun _ => 0)), (asighed, eI G 8 (fun _ => 0)), (qr, .inr (6, [.int 0, .int 0, .int 0, .ref rkeys, .ref rsigns, .ref rnumbers, .ref rstack])), (qh, .inr (2, [.ref hk, .int 0, .int 0]))]) C hw (c_X5_read qd qt 0 0 0 0 1 0 40 0 0 dslideNames dpictures dheats dafter dhearerNames dneeds dlikes dhates dnear kc bys 900 0 0 0 0 0 0 0 (by decide)) mwX5_read kw518 [1, 27] [0, 2, 3, 4, 5, 6, 7, 8, 9, 10, 11, 12, 13, 14, 15, 16, 17, 18, 19, 20, 21, 22, 23, 24, 25, 26] rfl rfl rfl rfl (by decide) 0 rfl rfl rfl rfl hl.1 rfl (Nat.le_of_ble_eq_true rfl) ⟨(Nat.le_of_ble_eq_true rfl), (Nat.le_of_ble_eq_true rfl)⟩ ⟨(Nat.le_of_ble_eq_true rfl), (Nat.le_of_ble_eq_true rfl)⟩ dX10_session_18 (fun r1 u9 H locs hp9 hw => ?_)
  obtain ⟨rfl, rfl⟩ := hp9
  have hw : Wd G s A [(qx, .inr (9, [.ref qt, .ref qs, .ref qd, .ref qa, .ref qb, .ref qh, .ref qr, .ref qe, .ref qp, .ref qf, .ref qn, .ref qi, .ref qo, .int 0, .int 0, .int (-1), .int (-1)])), (dslideNames, eJ G 6 (fun _ => 0)), (dpictures, eI G 6 (fun _ => 0)), (dheats, eI G 6 (fun _ => 0)), (dafter, eI G 6 (fun _ => 0)), (dhearerNames, eJ G 8 (fun _ => 0)), (dneeds, eI G 8 (fun _ => 0)), (dlikes, eI G 8 (fun _ => 0)), (dhates, eI G 8 (fun _ => 0)), (dnear, eI G 8 (fun _ => 0)), (qs, .inr (4, [.int 0, .int 0, .int 0, .int 0, .int 1, .int 0, .int 40, .int 0, .int 0, .ref sslideNames, .ref spictures, .ref sheats, .ref safter, .ref shearerNames, .ref sneeds, .ref slikes, .ref shates, .ref snear])), (sslideNames, eJ G 6 (fun _ => 0)), (spictures, eI G 6 (fun _ => 0)), (sheats, eI G 6 (fun _ => 0)), (safter, eI G 6 (fun _ => 0)), (shearerNames, eJ G 8 (fun _ => 0)), (sneeds, eI G 8 (fun _ => 0)), (slikes, eI G 8 (fun _ => 0)), (shates, eI G 8 (fun _ => 0)), (snear, eI G 8 (fun _ => 0)), (qa, .inr (7, [.int 0, .int 0, .int 0, .int 0, .int 0, .int 0, .int 0, .int 0, .ref apictures, .ref ashown, .ref asighed])), (apictures, eI G 6 (fun _ => 0)), (ashown, eI G 6 (fun _ => 0)), (asighed, eI G 8 (fun _ => 0)), (qr, .inr (6, [.int 0, .int 0, .int 0, .ref rkeys, .ref rsigns, .ref rnumbers, .ref rstack])), (qh, .inr (2, [.ref hk, .int 0, .int 0])), (qd, .inr (4, [.int 0, .int 0, .int 0, .int 0, .int 1, .int 0, .int 40, .int 0, .int 0, .ref dslideNames, .ref dpictures, .ref dheats, .ref dafter, .ref dhearerNames, .ref dneeds, .ref dlikes, .ref dhates, .ref dnear])), (qt, .inr (8, [.ref kc, .ref bys, .int 0, .int 900, .int 0, .int 0, .int 0, .int 0, .long 0, .int (-1), .int 0, .int 0]))] H _ := hw
  refine lv_istore_n (lv' := [(1, .int 1), (0, .ref qx)]) C.1 C.2.1 dX10_session_21 rfl hl (by decide) rfl (fun ls hl => ?_)
  refine lv_aload_n C.1 C.2.1 dX10_session_22 rfl (lv_at hl 1 rfl) ?_
  refine x_callvV (As := []) (rest := []) (wr := [(dslideNames, eJ G 6 (fun _ => 0)), (dpictures, eI G 6 (fun _ => 0)), (dheats, eI G 6 (fun _ => 0)), (dafter, eI G 6 (fun _ => 0)), (dhearerNames, eJ G 8 (fun _ => 0)), (dneeds, eI G 8 (fun _ => 0)), (dlikes, eI G 8 (fun _ => 0)), (dhates, eI G 8 (fun _ => 0)), (dnear, eI G 8 (fun _ => 0)), (qs, .inr (4, [.int 0, .int 0, .int 0, .int 0, .int 1, .int 0, .int 40, .int 0, .int 0, .ref sslideNames, .ref spictures, .ref sheats, .ref safter, .ref shearerNames, .ref sneeds, .ref slikes, .ref shates, .ref snear])), (sslideNames, eJ G 6 (fun _ => 0)), (spictures, eI G 6 (fun _ => 0)), (sheats, eI G 6 (fun _ => 0)), (safter, eI G 6 (fun _ => 0)), (shearerNames, eJ G 8 (fun _ => 0)), (sneeds, eI G 8 (fun _ => 0)), (slikes, eI G 8 (fun _ => 0)), (shates, eI G 8 (fun _ => 0)), (snear, eI G 8 (fun _ => 0)), (qa, .inr (7, [.int 0, .int 0, .int 0, .int 0, .int 0, .int 0, .int 0, .int 0, .ref apictures, .ref ashown, .ref asighed])), (apictures, eI G 6 (fun _ => 0)), (ashown, eI G 6 (fun _ => 0)), (asighed, eI G 8 (fun _ => 0)), (qr, .inr (6, [.int 0, .int 0, .int 0, .ref rkeys, .ref rsigns, .ref rnumbers, .ref rstack])), (qh, .inr (2, [.ref hk, .int 0, .int 0])), (qd, .inr (4, [.int 0, .int 0, .int 0, .int 0, .int 1, .int 0, .int 40, .int 0, .int 0, .ref dslideNames, .ref dpictures, .ref dheats, .ref dafter, .ref dhearerNames, .ref dneeds, .ref dlikes, .ref dhates, .ref dnear]))]) C hw (c_X10_closeText qx qt qs qd qa qb qh qr qe qp qf qn qi qo 0 kc bys 0 900 0 0 0 0 0 (-1) 0 0) mwX10_closeText kw622 [0, 27] [1, 2, 3, 4, 5, 6, 7, 8, 9, 10, 11, 12, 13, 14, 15, 16, 17, 18, 19, 20, 21, 22, 23, 24, 25, 26] rfl rfl rfl rfl (by decide) 0 rfl rfl rfl rfl hl.1 rfl (Nat.le_of_ble_eq_true rfl) ⟨(Nat.le_of_ble_eq_true rfl), (Nat.le_of_ble_eq_true rfl)⟩ ⟨(Nat.le_of_ble_eq_true rfl), (Nat.le_of_ble_eq_true rfl)⟩ dX10_session_23 (fun  u9 H locs hp9 hw => ?_)
  obtain rfl := hp9
  have hw : Wd G s A [(dslideNames, eJ G 6 (fun _ => 0)), (dpictures, eI G 6 (fun _ => 0)), (dheats, eI G 6 (fun _ => 0)), (dafter, eI G 6 (fun _ => 0)), (dhearerNames, eJ G 8 (fun _ => 0)), (dneeds, eI G 8 (fun _ => 0)), (dlikes, eI G 8 (fun _ => 0)), (dhates, eI G 8 (fun _ => 0)), (dnear, eI G 8 (fun _ => 0)), (qs, .inr (4, [.int 0, .int 0, .int 0, .int 0, .int 1, .int 0, .int 40, .int 0, .int 0, .ref sslideNames, .ref spictures, .ref sheats, .ref safter, .ref shearerNames, .ref sneeds, .ref slikes, .ref shates, .ref snear])), (sslideNames, eJ G 6 (fun _ => 0)), (spictures, eI G 6 (fun _ => 0)), (sheats, eI G 6 (fun _ => 0)), (safter, eI G 6 (fun _ => 0)), (shearerNames, eJ G 8 (fun _ => 0)), (sneeds, eI G 8 (fun _ => 0)), (slikes, eI G 8 (fun _ => 0)), (shates, eI G 8 (fun _ => 0)), (snear, eI G 8 (fun _ => 0)), (qa, .inr (7, [.int 0, .int 0, .int 0, .int 0, .int 0, .int 0, .int 0, .int 0, .ref apictures, .ref ashown, .ref asighed])), (apictures, eI G 6 (fun _ => 0)), (ashown, eI G 6 (fun _ => 0)), (asighed, eI G 8 (fun _ => 0)), (qr, .inr (6, [.int 0, .int 0, .int 0, .ref rkeys, .ref rsigns, .ref rnumbers, .ref rstack])), (qh, .inr (2, [.ref hk, .int 0, .int 0])), (qd, .inr (4, [.int 0, .int 0, .int 0, .int 0, .int 1, .int 0, .int 40, .int 0, .int 0, .ref dslideNames, .ref dpictures, .ref dheats, .ref dafter, .ref dhearerNames, .ref dneeds, .ref dlikes, .ref dhates, .ref dnear])), (qx, .inr (9, [.ref qt, .ref qs, .ref qd, .ref qa, .ref qb, .ref qh, .ref qr, .ref qe, .ref qp, .ref qf, .ref qn, .ref qi, .ref qo, .int 0, .int 0, .int (-1), .int (-1)])), (qt, .inr (8, [.ref kc, .ref bys, .int 0, .int 900, .int 0, .int 0, .int 0, .int 0, .long 0, .int (-1), .int 0, .int 0]))] H _ := hw
  refine lv_iload_n C.1 C.2.1 dX10_session_26 rfl (lv_at hl 0 rfl) ?_
  refine lv_if_ne (tgt := 40) C.1 C.2.1 dX10_session_27 (by decide) (fun _ => ?_) (fun h9 => absurd h9 (by decide))
  refine lv_aload_n C.1 C.2.1 dX10_session_40 rfl (lv_at hl 1 rfl) ?_
  refine x_get C hw iwX10 9 rfl 26 rfl 1 (by decide) kw447 rfl dX10_session_41 ?_
  refine lv_aload_n C.1 C.2.1 dX10_session_44 rfl (lv_at hl 1 rfl) ?_
  refine x_get C hw iwX10 9 rfl 26 rfl 2 (by decide) kw448 rfl dX10_session_45 ?_
  refine x_callvV (As := [.ref qd]) (rest := []) (wr := [(qa, .inr (7, [.int 0, .int 0, .int 0, .int 0, .int 0, .int 0, .int 0, .int 0, .ref apictures, .ref ashown, .ref asighed])), (apictures, eI G 6 (fun _ => 0)), (ashown, eI G 6 (fun _ => 0)), (asighed, eI G 8 (fun _ => 0)), (qr, .inr (6, [.int 0, .int 0, .int 0, .ref rkeys, .ref rsigns, .ref rnumbers, .ref rstack])), (qh, .inr (2, [.ref hk, .int 0, .int 0])), (qx, .inr (9, [.ref qt, .ref qs, .ref qd, .ref qa, .ref qb, .ref qh, .ref qr, .ref qe, .ref qp, .ref qf, .ref qn, .ref qi, .ref qo, .int 0, .int 0, .int (-1), .int (-1)])), (qt, .inr (8, [.ref kc, .ref bys, .int 0, .int 900, .int 0, .int 0, .int 0, .int 0, .long 0, .int (-1), .int 0, .int 0]))]) C hw (c_X5_copyFrom qs qd 0 0 0 0 1 0 40 0 0 sslideNames spictures sheats safter shearerNames sneeds slikes shates snear (fun _ => 0) (fun _ => 0) (fun _ => 0) (fun _ => 0) (fun _ => 0) (fun _ => 0) (fun _ => 0) (fun _ => 0) (fun _ => 0) 0 0 0 0 1 0 40 0 0 dslideNames dpictures dheats dafter dhearerNames dneeds dlikes dhates dnear (fun _ => 0) (fun _ => 0) (fun _ => 0) (fun _ => 0) (fun _ => 0) (fun _ => 0) (fun _ => 0) (fun _ => 0) (fun _ => 0)) mwX5_copyFrom kw626 [9, 10, 11, 12, 13, 14, 15, 16, 17, 18, 25, 0, 1, 2, 3, 4, 5, 6, 7, 8] [19, 20, 21, 22, 23, 24, 26, 27] rfl rfl rfl rfl (by decide) 0 rfl rfl rfl rfl hl.1 rfl (Nat.le_of_ble_eq_true rfl) ⟨(Nat.le_of_ble_eq_true rfl), (Nat.le_of_ble_eq_true rfl)⟩ ⟨(Nat.le_of_ble_eq_true rfl), (Nat.le_of_ble_eq_true rfl)⟩ dX10_session_48 (fun  u9 H locs hp9 hw => ?_)
  obtain rfl := hp9
  have hw : Wd G s A [(qa, .inr (7, [.int 0, .int 0, .int 0, .int 0, .int 0, .int 0, .int 0, .int 0, .ref apictures, .ref ashown, .ref asighed])), (apictures, eI G 6 (fun _ => 0)), (ashown, eI G 6 (fun _ => 0)), (asighed, eI G 8 (fun _ => 0)), (qr, .inr (6, [.int 0, .int 0, .int 0, .ref rkeys, .ref rsigns, .ref rnumbers, .ref rstack])), (qh, .inr (2, [.ref hk, .int 0, .int 0])), (qx, .inr (9, [.ref qt, .ref qs, .ref qd, .ref qa, .ref qb, .ref qh, .ref qr, .ref qe, .ref qp, .ref qf, .ref qn, .ref qi, .ref qo, .int 0, .int 0, .int (-1), .int (-1)])), (qt, .inr (8, [.ref kc, .ref bys, .int 0, .int 900, .int 0, .int 0, .int 0, .int 0, .long 0, .int (-1), .int 0, .int 0])), (qs, .inr (4, [.int 0, .int 0, .int 0, .int 0, .int 1, .int 0, .int 40, .int 0, .int 0, .ref sslideNames, .ref spictures, .ref sheats, .ref safter, .ref shearerNames, .ref sneeds, .ref slikes, .ref shates, .ref snear])), (sslideNames, eJ G 6 (va_cpy (fun _ => 0) (fun _ => 0) 0 0 6)), (spictures, eI G 6 (va_cpy (fun _ => 0) (fun _ => 0) 0 0 6)), (sheats, eI G 6 (va_cpy (fun _ => 0) (fun _ => 0) 0 0 6)), (safter, eI G 6 (va_cpy (fun _ => 0) (fun _ => 0) 0 0 6)), (shearerNames, eJ G 8 (va_cpy (fun _ => 0) (fun _ => 0) 0 0 8)), (sneeds, eI G 8 (va_cpy (fun _ => 0) (fun _ => 0) 0 0 8)), (slikes, eI G 8 (va_cpy (fun _ => 0) (fun _ => 0) 0 0 8)), (shates, eI G 8 (va_cpy (fun _ => 0) (fun _ => 0) 0 0 8)), (snear, eI G 8 (va_cpy (fun _ => 0) (fun _ => 0) 0 0 8)), (qd, .inr (4, [.int 0, .int 0, .int 0, .int 0, .int 1, .int 0, .int 40, .int 0, .int 0, .ref dslideNames, .ref dpictures, .ref dheats, .ref dafter, .ref dhearerNames, .ref dneeds, .ref dlikes, .ref dhates, .ref dnear])), (dslideNames, eJ G 6 (fun _ => 0)), (dpictures, eI G 6 (fun _ => 0)), (dheats, eI G 6 (fun _ => 0)), (dafter, eI G 6 (fun _ => 0)), (dhearerNames, eJ G 8 (fun _ => 0)), (dneeds, eI G 8 (fun _ => 0)), (dlikes, eI G 8 (fun _ => 0)), (dhates, eI G 8 (fun _ => 0)), (dnear, eI G 8 (fun _ => 0))] H _ := hw
  refine lv_aload_n C.1 C.2.1 dX10_session_51 rfl (lv_at hl 1 rfl) ?_
  refine x_get C hw iwX10 9 rfl 6 rfl 3 (by decide) kw449 rfl dX10_session_52 ?_
  refine lv_aload_n C.1 C.2.1 dX10_session_55 rfl (lv_at hl 1 rfl) ?_
  refine x_get C hw iwX10 9 rfl 6 rfl 1 (by decide) kw447 rfl dX10_session_56 ?_
  refine x_callvV (As := [.ref qs]) (rest := []) (wr := [(qr, .inr (6, [.int 0, .int 0, .int 0, .ref rkeys, .ref rsigns, .ref rnumbers, .ref rstack])), (qh, .inr (2, [.ref hk, .int 0, .int 0])), (qx, .inr (9, [.ref qt, .ref qs, .ref qd, .ref qa, .ref qb, .ref qh, .ref qr, .ref qe, .ref qp, .ref qf, .ref qn, .ref qi, .ref qo, .int 0, .int 0, .int (-1), .int (-1)])), (qt, .inr (8, [.ref kc, .ref bys, .int 0, .int 900, .int 0, .int 0, .int 0, .int 0, .long 0, .int (-1), .int 0, .int 0])), (sslideNames, eJ G 6 (va_cpy (fun _ => 0) (fun _ => 0) 0 0 6)), (sheats, eI G 6 (va_cpy (fun _ => 0) (fun _ => 0) 0 0 6)), (safter, eI G 6 (va_cpy (fun _ => 0) (fun _ => 0) 0 0 6)), (shearerNames, eJ G 8 (va_cpy (fun _ => 0) (fun _ => 0) 0 0 8)), (sneeds, eI G 8 (va_cpy (fun _ => 0) (fun _ => 0) 0 0 8)), (slikes, eI G 8 (va_cpy (fun _ => 0) (fun _ => 0) 0 0 8)), (shates, eI G 8 (va_cpy (fun _ => 0) (fun _ => 0) 0 0 8)), (snear, eI G 8 (va_cpy (fun _ => 0) (fun _ => 0) 0 0 8)), (qd, .inr (4, [.int 0, .int 0, .int 0, .int 0, .int 1, .int 0, .int 40, .int 0, .int 0, .ref dslideNames, .ref dpictures, .ref dheats, .ref dafter, .ref dhearerNames, .ref dneeds, .ref dlikes, .ref dhates, .ref dnear])), (dslideNames, eJ G 6 (fun _ => 0)), (dpictures, eI G 6 (fun _ => 0)), (dheats, eI G 6 (fun _ => 0)), (dafter, eI G 6 (fun _ => 0)), (dhearerNames, eJ G 8 (fun _ => 0)), (dneeds, eI G 8 (fun _ => 0)), (dlikes, eI G 8 (fun _ => 0)), (dhates, eI G 8 (fun _ => 0)), (dnear, eI G 8 (fun _ => 0))]) C hw (c_X8_begin qa qs 0 0 0 0 0 0 0 0 apictures ashown asighed (fun _ => 0) (fun _ => 0) (fun _ => 0) 0 0 0 0 1 0 40 0 0 sslideNames spictures sheats safter shearerNames sneeds slikes shates snear (va_cpy (fun _ => 0) (fun _ => 0) 0 0 6)) mwX8_begin kw633 [0, 1, 2, 3, 8, 10] [4, 5, 6, 7, 9, 11, 12, 13, 14, 15, 16, 17, 18, 19, 20, 21, 22, 23, 24, 25, 26, 27] rfl rfl rfl rfl (by decide) 0 rfl rfl rfl rfl hl.1 rfl (Nat.le_of_ble_eq_true rfl) ⟨(Nat.le_of_ble_eq_true rfl), (Nat.le_of_ble_eq_true rfl)⟩ ⟨(Nat.le_of_ble_eq_true rfl), (Nat.le_of_ble_eq_true rfl)⟩ dX10_session_59 (fun  u9 H locs hp9 hw => ?_)
  obtain ⟨g1_2, g2_3, g3_4, rfl⟩ := hp9
  have hw : Wd G s A [(qr, .inr (6, [.int 0, .int 0, .int 0, .ref rkeys, .ref rsigns, .ref rnumbers, .ref rstack])), (qh, .inr (2, [.ref hk, .int 0, .int 0])), (qx, .inr (9, [.ref qt, .ref qs, .ref qd, .ref qa, .ref qb, .ref qh, .ref qr, .ref qe, .ref qp, .ref qf, .ref qn, .ref qi, .ref qo, .int 0, .int 0, .int (-1), .int (-1)])), (qt, .inr (8, [.ref kc, .ref bys, .int 0, .int 900, .int 0, .int 0, .int 0, .int 0, .long 0, .int (-1), .int 0, .int 0])), (sslideNames, eJ G 6 (va_cpy (fun _ => 0) (fun _ => 0) 0 0 6)), (sheats, eI G 6 (va_cpy (fun _ => 0) (fun _ => 0) 0 0 6)), (safter, eI G 6 (va_cpy (fun _ => 0) (fun _ => 0) 0 0 6)), (shearerNames, eJ G 8 (va_cpy (fun _ => 0) (fun _ => 0) 0 0 8)), (sneeds, eI G 8 (va_cpy (fun _ => 0) (fun _ => 0) 0 0 8)), (slikes, eI G 8 (va_cpy (fun _ => 0) (fun _ => 0) 0 0 8)), (shates, eI G 8 (va_cpy (fun _ => 0) (fun _ => 0) 0 0 8)), (snear, eI G 8 (va_cpy (fun _ => 0) (fun _ => 0) 0 0 8)), (qd, .inr (4, [.int 0, .int 0, .int 0, .int 0, .int 1, .int 0, .int 40, .int 0, .int 0, .ref dslideNames, .ref dpictures, .ref dheats, .ref dafter, .ref dhearerNames, .ref dneeds, .ref dlikes, .ref dhates, .ref dnear])), (dslideNames, eJ G 6 (fun _ => 0)), (dpictures, eI G 6 (fun _ => 0)), (dheats, eI G 6 (fun _ => 0)), (dafter, eI G 6 (fun _ => 0)), (dhearerNames, eJ G 8 (fun _ => 0)), (dneeds, eI G 8 (fun _ => 0)), (dlikes, eI G 8 (fun _ => 0)), (dhates, eI G 8 (fun _ => 0)), (dnear, eI G 8 (fun _ => 0)), (qa, .inr (7, [.int 0, .int 0, .int 0, .int 0, .int 0, .int 0, .int 0, .int 0, .ref apictures, .ref ashown, .ref asighed])), (apictures, eI G 6 g1_2), (ashown, eI G 6 g2_3), (asighed, eI G 8 g3_4), (qs, .inr (4, [.int 0, .int 0, .int 0, .int 0, .int 1, .int 0, .int 40, .int 0, .int 0, .ref sslideNames, .ref spictures, .ref sheats, .ref safter, .ref shearerNames, .ref sneeds, .ref slikes, .ref shates, .ref snear])), (spictures, eI G 6 (va_cpy (fun _ => 0) (fun _ => 0) 0 0 6))] H _ := hw
  refine lv_aload_n C.1 C.2.1 dX10_session_62 rfl (lv_at hl 1 rfl) ?_
  refine x_get C hw iwX10 9 rfl 2 rfl 6 (by decide) kw452 rfl dX10_session_63 ?_
  refine lv_iconst (v := 0) C.1 C.2.1 dX10_session_66 (by decide) ?_
  refine x_put (w' := [(qr, .inr (6, [.int 0, .int 0, .int 0, .ref rkeys, .ref rsigns, .ref rnumbers, .ref rstack])), (qh, .inr (2, [.ref hk, .int 0, .int 0])), (qx, .inr (9, [.ref qt, .ref qs, .ref qd, .ref qa, .ref qb, .ref qh, .ref qr, .ref qe, .ref qp, .ref qf, .ref qn, .ref qi, .ref qo, .int 0, .int 0, .int (-1), .int (-1)])), (qt, .inr (8, [.ref kc, .ref bys, .int 0, .int 900, .int 0, .int 0, .int 0, .int 0, .long 0, .int (-1), .int 0, .int 0])), (sslideNames, eJ G 6 (va_cpy (fun _ => 0) (fun _ => 0) 0 0 6)), (sheats, eI G 6 (va_cpy (fun _ => 0) (fun _ => 0) 0 0 6)), (safter, eI G 6 (va_cpy (fun _ => 0) (fun _ => 0) 0 0 6)), (shearerNames, eJ G 8 (va_cpy (fun _ => 0) (fun _ => 0) 0 0 8)), (sneeds, eI G 8 (va_cpy (fun _ => 0) (fun _ => 0) 0 0 8)), (slikes, eI G 8 (va_cpy (fun _ => 0) (fun _ => 0) 0 0 8)), (shates, eI G 8 (va_cpy (fun _ => 0) (fun _ => 0) 0 0 8)), (snear, eI G 8 (va_cpy (fun _ => 0) (fun _ => 0) 0 0 8)), (qd, .inr (4, [.int 0, .int 0, .int 0, .int 0, .int 1, .int 0, .int 40, .int 0, .int 0, .ref dslideNames, .ref dpictures, .ref dheats, .ref dafter, .ref dhearerNames, .ref dneeds, .ref dlikes, .ref dhates, .ref dnear])), (dslideNames, eJ G 6 (fun _ => 0)), (dpictures, eI G 6 (fun _ => 0)), (dheats, eI G 6 (fun _ => 0)), (dafter, eI G 6 (fun _ => 0)), (dhearerNames, eJ G 8 (fun _ => 0)), (dneeds, eI G 8 (fun _ => 0)), (dlikes, eI G 8 (fun _ => 0)), (dhates, eI G 8 (fun _ => 0)), (dnear, eI G 8 (fun _ => 0)), (qa, .inr (7, [.int 0, .int 0, .int 0, .int 0, .int 0, .int 0, .int 0, .int 0, .ref apictures, .ref ashown, .ref asighed])), (apictures, eI G 6 g1_2), (ashown, eI G 6 g2_3), (asighed, eI G 8 g3_4), (qs, .inr (4, [.int 0, .int 0, .int 0, .int 0, .int 1, .int 0, .int 40, .int 0, .int 0, .ref sslideNames, .ref spictures, .ref sheats, .ref safter, .ref shearerNames, .ref sneeds, .ref slikes, .ref shates, .ref snear])), (spictures, eI G 6 (va_cpy (fun _ => 0) (fun _ => 0) 0 0 6))]) C hw iwX7 tyX7_ok nmX7 6 rfl 0 rfl 0 (by decide) kw321 rfl (by first | rfl | decide) rfl (Nat.le_of_ble_eq_true rfl) rfl dX10_session_67 (fun H locs hw => ?_)
  refine lv_aload_n C.1 C.2.1 dX10_session_70 rfl (lv_at hl 1 rfl) ?_
  refine x_get C hw iwX10 9 rfl 2 rfl 5 (by decide) kw451 rfl dX10_session_71 ?_
  refine x_callvV (As := []) (rest := []) (wr := [(qr, .inr (6, [.int 0, .int 0, .int 0, .ref rkeys, .ref rsigns, .ref rnumbers, .ref rstack])), (qx, .inr (9, [.ref qt, .ref qs, .ref qd, .ref qa, .ref qb, .ref qh, .ref qr, .ref qe, .ref qp, .ref qf, .ref qn, .ref qi, .ref qo, .int 0, .int 0, .int (-1), .int (-1)])), (qt, .inr (8, [.ref kc, .ref bys, .int 0, .int 900, .int 0, .int 0, .int 0, .int 0, .long 0, .int (-1), .int 0, .int 0])), (sslideNames, eJ G 6 (va_cpy (fun _ => 0) (fun _ => 0) 0 0 6)), (sheats, eI G 6 (va_cpy (fun _ => 0) (fun _ => 0) 0 0 6)), (safter, eI G 6 (va_cpy (fun _ => 0) (fun _ => 0) 0 0 6)), (shearerNames, eJ G 8 (va_cpy (fun _ => 0) (fun _ => 0) 0 0 8)), (sneeds, eI G 8 (va_cpy (fun _ => 0) (fun _ => 0) 0 0 8)), (slikes, eI G 8 (va_cpy (fun _ => 0) (fun _ => 0) 0 0 8)), (shates, eI G 8 (va_cpy (fun _ => 0) (fun _ => 0) 0 0 8)), (snear, eI G 8 (va_cpy (fun _ => 0) (fun _ => 0) 0 0 8)), (qd, .inr (4, [.int 0, .int 0, .int 0, .int 0, .int 1, .int 0, .int 40, .int 0, .int 0, .ref dslideNames, .ref dpictures, .ref dheats, .ref dafter, .ref dhearerNames, .ref dneeds, .ref dlikes, .ref dhates, .ref dnear])), (dslideNames, eJ G 6 (fun _ => 0)), (dpictures, eI G 6 (fun _ => 0)), (dheats, eI G 6 (fun _ => 0)), (dafter, eI G 6 (fun _ => 0)), (dhearerNames, eJ G 8 (fun _ => 0)), (dneeds, eI G 8 (fun _ => 0)), (dlikes, eI G 8 (fun _ => 0)), (dhates, eI G 8 (fun _ => 0)), (dnear, eI G 8 (fun _ => 0)), (qa, .inr (7, [.int 0, .int 0, .int 0, .int 0, .int 0, .int 0, .int 0, .int 0, .ref apictures, .ref ashown, .ref asighed])), (apictures, eI G 6 g1_2), (ashown, eI G 6 g2_3), (asighed, eI G 8 g3_4), (qs, .inr (4, [.int 0, .int 0, .int 0, .int 0, .int 1, .int 0, .int 40, .int 0, .int 0, .ref sslideNames, .ref spictures, .ref sheats, .ref safter, .ref shearerNames, .ref sneeds, .ref slikes, .ref shates, .ref snear])), (spictures, eI G 6 (va_cpy (fun _ => 0) (fun _ => 0) 0 0 6))]) C hw (c_X2_clear qh hk 0 0) mwX2_clear kw637 [1] [0, 2, 3, 4, 5, 6, 7, 8, 9, 10, 11, 12, 13, 14, 15, 16, 17, 18, 19, 20, 21, 22, 23, 24, 25, 26, 27] rfl rfl rfl rfl (by decide) 0 rfl rfl rfl rfl hl.1 rfl (Nat.le_of_ble_eq_true rfl) ⟨(Nat.le_of_ble_eq_true rfl), (Nat.le_of_ble_eq_true rfl)⟩ ⟨(Nat.le_of_ble_eq_true rfl), (Nat.le_of_ble_eq_true rfl)⟩ dX10_session_74 (fun  u9 H locs hp9 hw => ?_)
  obtain rfl := hp9
  have hw : Wd G s A [(qr, .inr (6, [.int 0, .int 0, .int 0, .ref rkeys, .ref rsigns, .ref rnumbers, .ref rstack])), (qx, .inr (9, [.ref qt, .ref qs, .ref qd, .ref qa, .ref qb, .ref qh, .ref qr, .ref qe, .ref qp, .ref qf, .ref qn, .ref qi, .ref qo, .int 0, .int 0, .int (-1), .int (-1)])), (qt, .inr (8, [.ref kc, .ref bys, .int 0, .int 900, .int 0, .int 0, .int 0, .int 0, .long 0, .int (-1), .int 0, .int 0])), (sslideNames, eJ G 6 (va_cpy (fun _ => 0) (fun _ => 0) 0 0 6)), (sheats, eI G 6 (va_cpy (fun _ => 0) (fun _ => 0) 0 0 6)), (safter, eI G 6 (va_cpy (fun _ => 0) (fun _ => 0) 0 0 6)), (shearerNames, eJ G 8 (va_cpy (fun _ => 0) (fun _ => 0) 0 0 8)), (sneeds, eI G 8 (va_cpy (fun _ => 0) (fun _ => 0) 0 0 8)), (slikes, eI G 8 (va_cpy (fun _ => 0) (fun _ => 0) 0 0 8)), (shates, eI G 8 (va_cpy (fun _ => 0) (fun _ => 0) 0 0 8)), (snear, eI G 8 (va_cpy (fun _ => 0) (fun _ => 0) 0 0 8)), (qd, .inr (4, [.int 0, .int 0, .int 0, .int 0, .int 1, .int 0, .int 40, .int 0, .int 0, .ref dslideNames, .ref dpictures, .ref dheats, .ref dafter, .ref dhearerNames, .ref dneeds, .ref dlikes, .ref dhates, .ref dnear])), (dslideNames, eJ G 6 (fun _ => 0)), (dpictures, eI G 6 (fun _ => 0)), (dheats, eI G 6 (fun _ => 0)), (dafter, eI G 6 (fun _ => 0)), (dhearerNames, eJ G 8 (fun _ => 0)), (dneeds, eI G 8 (fun _ => 0)), (dlikes, eI G 8 (fun _ => 0)), (dhates, eI G 8 (fun _ => 0)), (dnear, eI G 8 (fun _ => 0)), (qa, .inr (7, [.int 0, .int 0, .int 0, .int 0, .int 0, .int 0, .int 0, .int 0, .ref apictures, .ref ashown, .ref asighed])), (apictures, eI G 6 g1_2), (ashown, eI G 6 g2_3), (asighed, eI G 8 g3_4), (qs, .inr (4, [.int 0, .int 0, .int 0, .int 0, .int 1, .int 0, .int 40, .int 0, .int 0, .ref sslideNames, .ref spictures, .ref sheats, .ref safter, .ref shearerNames, .ref sneeds, .ref slikes, .ref shates, .ref snear])), (spictures, eI G 6 (va_cpy (fun _ => 0) (fun _ => 0) 0 0 6)), (qh, .inr (2, [.ref hk, .int 0, .int 0]))] H _ := hw
  refine lv_aload_n C.1 C.2.1 dX10_session_77 rfl (lv_at hl 1 rfl) ?_
  refine x_get C hw iwX10 9 rfl 1 rfl 1 (by decide) kw447 rfl dX10_session_78 ?_
  refine x_get C hw iwX5 4 rfl 25 rfl 3 (by decide) kw159 rfl dX10_session_81 ?_
  have hw := hw.sub (w' := []) [] rfl rfl
  exact x_reti B hw ⟨rfl, rfl⟩ (Nat.le_of_ble_eq_true rfl) (Nat.le_of_ble_eq_true rfl) dX10_session_84
theorem dX8_letHourGo_0 : decode cX8_letHourGo 0 = .ok (.aload_n 0, 1) := by decide +kernel
theorem dX8_letHourGo_1 : decode cX8_letHourGo 1 = .ok (.iconst 0, 1) := by decide +kernel
theorem dX8_letHourGo_2 : decode cX8_letHourGo 2 = .ok (.aload_n 0, 1) := by decide +kernel
theorem dX8_letHourGo_3 : decode cX8_letHourGo 3 = .ok (.getfield 25, 3) := by decide +kernel
theorem dX8_letHourGo_6 : decode cX8_letHourGo 6 = .ok (.iconst 5, 1) := by decide +kernel
theorem dX8_letHourGo_7 : decode cX8_letHourGo 7 = .ok (.isub, 1) := by decide +kernel
theorem dX8_letHourGo_8 : decode cX8_letHourGo 8 = .ok (.invokestatic 107, 3) := by decide +kernel
theorem dX8_letHourGo_11 : decode cX8_letHourGo 11 = .ok (.putfield 25, 3) := by decide +kernel
theorem dX8_letHourGo_14 : decode cX8_letHourGo 14 = .ok (.aload_n 0, 1) := by decide +kernel
theorem dX8_letHourGo_15 : decode cX8_letHourGo 15 = .ok (.getfield 25, 3) := by decide +kernel
theorem dX8_letHourGo_18 : decode cX8_letHourGo 18 = .ok (.ifCond .ne 8, 3) := by decide +kernel
theorem dX8_letHourGo_21 : decode cX8_letHourGo 21 = .ok (.aload_n 0, 1) := by decide +kernel
theorem dX8_letHourGo_22 : decode cX8_letHourGo 22 = .ok (.iconst 0, 1) := by decide +kernel
theorem dX8_letHourGo_23 : decode cX8_letHourGo 23 = .ok (.putfield 28, 3) := by decide +kernel
theorem dX8_letHourGo_26 : decode cX8_letHourGo 26 = .ok (.aload_n 0, 1) := by decide +kernel
theorem dX8_letHourGo_27 : decode cX8_letHourGo 27 = .ok (.dup, 1) := by decide +kernel
theorem dX8_letHourGo_28 : decode cX8_letHourGo 28 = .ok (.getfield 21, 3) := by decide +kernel
theorem dX8_letHourGo_31 : decode cX8_letHourGo 31 = .ok (.iconst 1, 1) := by decide +kernel
theorem dX8_letHourGo_32 : decode cX8_letHourGo 32 = .ok (.iadd, 1) := by decide +kernel
theorem dX8_letHourGo_33 : decode cX8_letHourGo 33 = .ok (.putfield 21, 3) := by decide +kernel
theorem dX8_letHourGo_36 : decode cX8_letHourGo 36 = .ok (.return_, 1) := by decide +kernel
set_option maxHeartbeats 4000000 in
set_option maxRecDepth 100000 in
theorem c_X8_letHourGo {l : Launch} {G : Gc} (qa : Nat) (k9 : Nat) (apictures : Nat) (ashown : Nat) (asighed : Nat)  : Cv l yX8_letHourGo cX8_letHourGo 1 1 0 0 G [.ref qa] [(qa, .inr (7, [.int (nI k9), .int 0, .int 0, .int 0, .int 0, .int 0, .int 0, .int 0, .ref apictures, .ref ashown, .ref asighed]))] (fun (u9 : va_W) => u9 = [(qa, .inr (7, [.int (nI (k9 + 1)), .int 0, .int 0, .int 0, .int 0, .int 0, .int 0, .int 0, .ref apictures, .ref ashown, .ref asighed]))]) := by
  refine Cv.of (by decide) (Nat.le_of_ble_eq_true rfl) ?_
  intro p e s m below meth c ls A B hw hl
  have C : CallFix p m c cX8_letHourGo 1 s _ gw "LanternState$State" := B.1
  have hl : lv_has ls 1 [(0, .ref qa)] := hl
  refine lv_aload_n C.1 C.2.1 dX8_letHourGo_0 rfl (lv_at hl 0 rfl) ?_
  refine lv_iconst (v := 0) C.1 C.2.1 dX8_letHourGo_1 (by decide) ?_
  refine lv_aload_n C.1 C.2.1 dX8_letHourGo_2 rfl (lv_at hl 0 rfl) ?_
  refine x_get C hw iwX8 7 rfl 0 rfl 1 (by decide) kw240 rfl dX8_letHourGo_3 ?_
  refine lv_iconst (v := 5) C.1 C.2.1 dX8_letHourGo_6 (by decide) ?_
  refine lv_isub C.1 C.2.1 dX8_letHourGo_7 ?_
  refine x_topi (z := (-5)) (by decide) ?_
  refine va_mmax C.1 C.2.1 (C.2.2.1.trans hl.1.symm) C.2.2.2.1 (C.2.2.2.2 _ kw784) (C.2.2.2.2 _ kw785) (C.2.2.2.2 _ kw23) (C.2.2.2.2 _ kw786) (Nat.le_of_ble_eq_true rfl) (Nat.le_of_ble_eq_true rfl) (Nat.le_of_ble_eq_true rfl) (Nat.le_of_ble_eq_true rfl) dX8_letHourGo_8 ?_
  refine x_topi (z := 0) (by decide) ?_
  refine x_put (w' := [(qa, .inr (7, [.int (nI k9), .int 0, .int 0, .int 0, .int 0, .int 0, .int 0, .int 0, .ref apictures, .ref ashown, .ref asighed]))]) C hw iwX8 tyX8_ok nmX8 7 rfl 0 rfl 1 (by decide) kw240 rfl rfl rfl (Nat.le_of_ble_eq_true rfl) rfl dX8_letHourGo_11 (fun H locs hw => ?_)
  refine lv_aload_n C.1 C.2.1 dX8_letHourGo_14 rfl (lv_at hl 0 rfl) ?_
  refine x_get C hw iwX8 7 rfl 0 rfl 1 (by decide) kw240 rfl dX8_letHourGo_15 ?_
  refine lv_if_ne (tgt := 26) C.1 C.2.1 dX8_letHourGo_18 (by decide) (fun h9 => absurd (by decide) h9) (fun _ => ?_)
  refine lv_aload_n C.1 C.2.1 dX8_letHourGo_21 rfl (lv_at hl 0 rfl) ?_
  refine lv_iconst (v := 0) C.1 C.2.1 dX8_letHourGo_22 (by decide) ?_
  refine x_put (w' := [(qa, .inr (7, [.int (nI k9), .int 0, .int 0, .int 0, .int 0, .int 0, .int 0, .int 0, .ref apictures, .ref ashown, .ref asighed]))]) C hw iwX8 tyX8_ok nmX8 7 rfl 0 rfl 2 (by decide) kw243 rfl (by first | rfl | decide) rfl (Nat.le_of_ble_eq_true rfl) rfl dX8_letHourGo_23 (fun H locs hw => ?_)
  refine lv_aload_n C.1 C.2.1 dX8_letHourGo_26 rfl (lv_at hl 0 rfl) ?_
  refine lv_dup C.1 C.2.1 dX8_letHourGo_27 rfl ?_
  refine x_get C hw iwX8 7 rfl 0 rfl 0 (by decide) kw237 rfl dX8_letHourGo_28 ?_
  refine lv_iconst (v := 1) C.1 C.2.1 dX8_letHourGo_31 (by decide) ?_
  refine lv_iadd C.1 C.2.1 dX8_letHourGo_32 ?_
  refine x_topi (z := (nI (k9 + 1))) (nI_1 k9) ?_
  refine x_put (w' := [(qa, .inr (7, [.int (nI (k9 + 1)), .int 0, .int 0, .int 0, .int 0, .int 0, .int 0, .int 0, .ref apictures, .ref ashown, .ref asighed]))]) C hw iwX8 tyX8_ok nmX8 7 rfl 0 rfl 0 (by decide) kw237 rfl rfl rfl (Nat.le_of_ble_eq_true rfl) rfl dX8_letHourGo_33 (fun H locs hw => ?_)
  exact x_retv B hw rfl (Nat.le_of_ble_eq_true rfl) (Nat.le_of_ble_eq_true rfl) dX8_letHourGo_36
theorem dX8_letHoursGo_0 : decode cX8_letHoursGo 0 = .ok (.iload_n 1, 1) := by decide +kernel
theorem dX8_letHoursGo_1 : decode cX8_letHoursGo 1 = .ok (.sipush 400, 3) := by decide +kernel
theorem dX8_letHoursGo_4 : decode cX8_letHoursGo 4 = .ok (.aload_n 0, 1) := by decide +kernel
theorem dX8_letHoursGo_5 : decode cX8_letHoursGo 5 = .ok (.getfield 21, 3) := by decide +kernel
theorem dX8_letHoursGo_8 : decode cX8_letHoursGo 8 = .ok (.isub, 1) := by decide +kernel
theorem dX8_letHoursGo_9 : decode cX8_letHoursGo 9 = .ok (.invokestatic 99, 3) := by decide +kernel
theorem dX8_letHoursGo_12 : decode cX8_letHoursGo 12 = .ok (.istore_n 2, 1) := by decide +kernel
theorem dX8_letHoursGo_13 : decode cX8_letHoursGo 13 = .ok (.iconst 0, 1) := by decide +kernel
theorem dX8_letHoursGo_14 : decode cX8_letHoursGo 14 = .ok (.istore_n 3, 1) := by decide +kernel
theorem dX8_letHoursGo_15 : decode cX8_letHoursGo 15 = .ok (.iload_n 3, 1) := by decide +kernel
theorem dX8_letHoursGo_16 : decode cX8_letHoursGo 16 = .ok (.iload_n 2, 1) := by decide +kernel
theorem dX8_letHoursGo_17 : decode cX8_letHoursGo 17 = .ok (.if_icmp .ge 13, 3) := by decide +kernel
theorem dX8_letHoursGo_30 : decode cX8_letHoursGo 30 = .ok (.iload_n 2, 1) := by decide +kernel
theorem dX8_letHoursGo_31 : decode cX8_letHoursGo 31 = .ok (.ireturn, 1) := by decide +kernel
theorem dX8_letHoursGo_20 : decode cX8_letHoursGo 20 = .ok (.aload_n 0, 1) := by decide +kernel
theorem dX8_letHoursGo_21 : decode cX8_letHoursGo 21 = .ok (.invokevirtual 104, 3) := by decide +kernel
theorem mwX8_letHourGo : MwV yX8_letHourGo cX8_letHourGo 1 none 0 := ⟨⟨kw783, kw8, by decide +kernel⟩, kw782, kS18⟩
theorem dX8_letHoursGo_24 : decode cX8_letHoursGo 24 = .ok (.iinc 3 1, 3) := by decide +kernel
theorem dX8_letHoursGo_27 : decode cX8_letHoursGo 27 = .ok (.goto (-12), 3) := by decide +kernel
set_option maxHeartbeats 4000000 in
set_option maxRecDepth 100000 in
theorem c_X8_letHoursGo {l : Launch} {G : Gc} (qa : Nat) (j9 : Nat) (apictures : Nat) (ashown : Nat) (asighed : Nat) (hj : j9 ≤ 24) : Ci l yX8_letHoursGo cX8_letHoursGo 4 (some .int) 2 0 0 G [.ref qa, .int (nI j9)] [(qa, .inr (7, [.int 0, .int 0, .int 0, .int 0, .int 0, .int 0, .int 0, .int 0, .ref apictures, .ref ashown, .ref asighed]))] (fun (r9 : Int32) (u9 : va_W) => r9 = (nI j9) ∧ u9 = []) := by
  refine Ci.of (by decide) (Nat.le_of_ble_eq_true rfl) ?_
  intro p e s m below meth c ls A B hw hl
  have C : CallFix p m c cX8_letHoursGo 4 s _ gw "LanternState$State" := B.1
  have hl : lv_has ls 4 [(0, .ref qa), (1, .int (nI j9))] := hl
  refine lv_iload_n C.1 C.2.1 dX8_letHoursGo_0 rfl (lv_at hl 1 rfl) ?_
  refine lv_sipush (v := 400) C.1 C.2.1 dX8_letHoursGo_1 (by decide) ?_
  refine lv_aload_n C.1 C.2.1 dX8_letHoursGo_4 rfl (lv_at hl 0 rfl) ?_
  refine x_get C hw iwX8 7 rfl 0 rfl 0 (by decide) kw237 rfl dX8_letHoursGo_5 ?_
  refine lv_isub C.1 C.2.1 dX8_letHoursGo_8 ?_
  refine x_topi (z := 400) (by decide) ?_
  refine va_mmin C.1 C.2.1 (C.2.2.1.trans hl.1.symm) C.2.2.2.1 (C.2.2.2.2 _ kw777) (C.2.2.2.2 _ kw778) (C.2.2.2.2 _ kw23) (C.2.2.2.2 _ kw779) (Nat.le_of_ble_eq_true rfl) (Nat.le_of_ble_eq_true rfl) (Nat.le_of_ble_eq_true rfl) (Nat.le_of_ble_eq_true rfl) dX8_letHoursGo_9 ?_
  refine x_topi (z := (nI j9)) (if_neg (nI_nlt (a := 400) (b := j9) (by omega) (by decide))) ?_
  refine lv_istore_n (lv' := [(2, .int (nI j9)), (0, .ref qa), (1, .int (nI j9))]) C.1 C.2.1 dX8_letHoursGo_12 rfl hl (by decide) rfl (fun ls hl => ?_)
  refine lv_iconst (v := 0) C.1 C.2.1 dX8_letHoursGo_13 (by decide) ?_
  refine lv_istore_n (lv' := [(3, .int 0), (2, .int (nI j9)), (0, .ref qa), (1, .int (nI j9))]) C.1 C.2.1 dX8_letHoursGo_14 rfl hl (by decide) rfl (fun ls hl => ?_)
  have loop15 : ∀ (n9 : Nat) (k9 : Nat), j9 - k9 < n9 → k9 ≤ j9 → ∀ (H : Heap) (locs : List Loc) (ls : Array Slot), Wd G s A [(qa, .inr (7, [.int (nI k9), .int 0, .int 0, .int 0, .int 0, .int 0, .int 0, .int 0, .ref apictures, .ref ashown, .ref asighed]))] H locs → lv_has ls 4 [(3, .int (nI k9)), (2, .int (nI j9)), (1, .int (nI j9)), (0, .ref qa)] → W p l e (rmD 2 0 0) s m [.ref qa, .int (nI j9)].toArray below meth c H locs 0 0 (MQ below (va_Qi (fun (r9 : Int32) (u9 : va_W) => r9 = (nI j9) ∧ u9 = []) (mB G A) A) [.ref qa, .int (nI j9)].toArray s 0 0 A) (F0 m 15 ls []) := by
    intro n9
    induction n9 with
    | zero => intro k9 h9; exact absurd h9 (Nat.not_lt_zero _)
    | succ n9 ih =>
      intro k9 h9 hi15 H locs ls hw hl
      refine lv_iload_n C.1 C.2.1 dX8_letHoursGo_15 rfl (lv_at hl 0 rfl) ?_
      refine lv_iload_n C.1 C.2.1 dX8_letHoursGo_16 rfl (lv_at hl 1 rfl) ?_
      refine lv_icmp_ge (tgt := 30) C.1 C.2.1 dX8_letHoursGo_17 (by decide) (fun c_17 => ?_) (fun c_17 => ?_)
      · skip
        refine lv_iload_n C.1 C.2.1 dX8_letHoursGo_30 rfl (lv_at hl 1 rfl) ?_
        have hw := hw.sub (w' := []) [] rfl rfl
        exact x_reti B hw ⟨rfl, rfl⟩ (Nat.le_of_ble_eq_true rfl) (Nat.le_of_ble_eq_true rfl) dX8_letHoursGo_31
      · skip
        have hk17 : k9 < j9 := x_ltN hi15 c_17 rfl
        refine lv_aload_n C.1 C.2.1 dX8_letHoursGo_20 rfl (lv_at hl 3 rfl) ?_
        refine x_callvV (As := []) (rest := []) (wr := []) C hw (c_X8_letHourGo qa k9 apictures ashown asighed) mwX8_letHourGo kw780 [0] [] rfl rfl rfl rfl (by decide) 0 rfl rfl rfl rfl hl.1 rfl (Nat.le_of_ble_eq_true rfl) ⟨(Nat.le_of_ble_eq_true rfl), (Nat.le_of_ble_eq_true rfl)⟩ ⟨(Nat.le_of_ble_eq_true rfl), (Nat.le_of_ble_eq_true rfl)⟩ dX8_letHoursGo_21 (fun  u9 H locs hp9 hw => ?_)
        obtain rfl := hp9
        have hw : Wd G s A [(qa, .inr (7, [.int (nI (k9 + 1)), .int 0, .int 0, .int 0, .int 0, .int 0, .int 0, .int 0, .ref apictures, .ref ashown, .ref asighed]))] H _ := hw
        refine lv_iinc (v := (nI (k9 + 1))) (lv' := [(3, .int (nI (k9 + 1))), (2, .int (nI j9)), (1, .int (nI j9)), (0, .ref qa)]) C.1 C.2.1 dX8_letHoursGo_24 hl (k := 0) rfl (nI_1 k9) (by decide) rfl (fun ls hl => ?_)
        refine lv_goto (tgt := 15) C.1 C.2.1 dX8_letHoursGo_27 (by decide) ?_
        exact ih (k9 + 1) (by omega) hk17 _ _ _ hw (lv_sub hl [0, 1, 2, 3] rfl)
  exact loop15 _ 0 (Nat.lt_succ_self _) (Nat.zero_le _) _ _ _ hw (lv_sub hl [0, 1, 3, 2] rfl)
theorem dX2_keep_0 : decode cX2_keep 0 = .ok (.aload_n 0, 1) := by decide +kernel
theorem dX2_keep_1 : decode cX2_keep 1 = .ok (.getfield 11, 3) := by decide +kernel
theorem dX2_keep_4 : decode cX2_keep 4 = .ok (.aload_n 0, 1) := by decide +kernel
theorem dX2_keep_5 : decode cX2_keep 5 = .ok (.getfield 22, 3) := by decide +kernel
theorem dX2_keep_8 : decode cX2_keep 8 = .ok (.aload_n 0, 1) := by decide +kernel
theorem dX2_keep_9 : decode cX2_keep 9 = .ok (.getfield 18, 3) := by decide +kernel
theorem dX2_keep_12 : decode cX2_keep 12 = .ok (.iadd, 1) := by decide +kernel
theorem dX2_keep_13 : decode cX2_keep 13 = .ok (.bipush 8, 2) := by decide +kernel
theorem dX2_keep_15 : decode cX2_keep 15 = .ok (.irem, 1) := by decide +kernel
theorem dX2_keep_16 : decode cX2_keep 16 = .ok (.aaload, 1) := by decide +kernel
theorem dX2_keep_17 : decode cX2_keep 17 = .ok (.aload_n 1, 1) := by decide +kernel
theorem dX2_keep_18 : decode cX2_keep 18 = .ok (.invokevirtual 25, 3) := by decide +kernel
theorem mwX8_copyFrom : MwV yX8_copyFrom cX8_copyFrom 2 none 1 := ⟨⟨kw693, kw8, by decide +kernel⟩, kw691, kw692⟩
theorem dX2_keep_21 : decode cX2_keep 21 = .ok (.aload_n 0, 1) := by decide +kernel
theorem dX2_keep_22 : decode cX2_keep 22 = .ok (.getfield 18, 3) := by decide +kernel
theorem dX2_keep_25 : decode cX2_keep 25 = .ok (.bipush 8, 2) := by decide +kernel
theorem dX2_keep_27 : decode cX2_keep 27 = .ok (.if_icmp .ge 16, 3) := by decide +kernel
theorem dX2_keep_30 : decode cX2_keep 30 = .ok (.aload_n 0, 1) := by decide +kernel
theorem dX2_keep_31 : decode cX2_keep 31 = .ok (.dup, 1) := by decide +kernel
theorem dX2_keep_32 : decode cX2_keep 32 = .ok (.getfield 18, 3) := by decide +kernel
theorem dX2_keep_35 : decode cX2_keep 35 = .ok (.iconst 1, 1) := by decide +kernel
theorem dX2_keep_36 : decode cX2_keep 36 = .ok (.iadd, 1) := by decide +kernel
theorem dX2_keep_37 : decode cX2_keep 37 = .ok (.putfield 18, 3) := by decide +kernel
theorem dX2_keep_40 : decode cX2_keep 40 = .ok (.goto 16, 3) := by decide +kernel
theorem dX2_keep_56 : decode cX2_keep 56 = .ok (.return_, 1) := by decide +kernel
set_option maxHeartbeats 4000000 in
set_option maxRecDepth 100000 in
theorem c_X2_keep {l : Launch} {G : Gc} (qh : Nat) (qz : Nat) (hk : Nat) (hf : Nat → Option Nat) (hs : Nat) (h_hour : Int32) (h_heat : Int32) (h_black : Int32) (h_so : Int32) (h_cracked : Int32) (h_behind : Int32) (h_allSighs : Int32) (h_seed : Int32) (hpictures : Nat) (hshown : Nat) (hsighed : Nat) (fh_pictures : Nat → Int32) (fh_shown : Nat → Int32) (fh_sighed : Nat → Int32) (z_hour : Int32) (z_heat : Int32) (z_black : Int32) (z_so : Int32) (z_cracked : Int32) (z_behind : Int32) (z_allSighs : Int32) (z_seed : Int32) (zpictures : Nat) (zshown : Nat) (zsighed : Nat) (fz_pictures : Nat → Int32) (fz_shown : Nat → Int32) (fz_sighed : Nat → Int32) (f0 : hf 0 = some hs) (hz_black : isB z_black) : Cv l yX2_keep cX2_keep 2 2 0 0 G [.ref qh, .ref qz] [(qh, .inr (2, [.ref hk, .int 0, .int 0])), (hk, eSt G 8 hf), (hs, .inr (7, [.int h_hour, .int h_heat, .int h_black, .int h_so, .int h_cracked, .int h_behind, .int h_allSighs, .int h_seed, .ref hpictures, .ref hshown, .ref hsighed])), (hpictures, eI G 6 fh_pictures), (hshown, eI G 6 fh_shown), (hsighed, eI G 8 fh_sighed), (qz, .inr (7, [.int z_hour, .int z_heat, .int z_black, .int z_so, .int z_cracked, .int z_behind, .int z_allSighs, .int z_seed, .ref zpictures, .ref zshown, .ref zsighed])), (zpictures, eI G 6 fz_pictures), (zshown, eI G 6 fz_shown), (zsighed, eI G 8 fz_sighed)] (fun (u9 : va_W) => u9 = []) := by
  refine Cv.of (by decide) (Nat.le_of_ble_eq_true rfl) ?_
  intro p e s m below meth c ls A B hw hl
  have C : CallFix p m c cX2_keep 2 s _ gw "LanternState$History" := B.1
  have hl : lv_has ls 2 [(0, .ref qh), (1, .ref qz)] := hl
  refine lv_aload_n C.1 C.2.1 dX2_keep_0 rfl (lv_at hl 0 rfl) ?_
  refine x_get C hw iwX2 2 rfl 0 rfl 0 (by decide) kw303 rfl dX2_keep_1 ?_
  refine lv_aload_n C.1 C.2.1 dX2_keep_4 rfl (lv_at hl 0 rfl) ?_
  refine x_get C hw iwX2 2 rfl 0 rfl 1 (by decide) kw304 rfl dX2_keep_5 ?_
  refine lv_aload_n C.1 C.2.1 dX2_keep_8 rfl (lv_at hl 0 rfl) ?_
  refine x_get C hw iwX2 2 rfl 0 rfl 2 (by decide) kw305 rfl dX2_keep_9 ?_
  refine lv_iadd C.1 C.2.1 dX2_keep_12 ?_
  refine x_topi (z := 0) (by decide) ?_
  refine lv_bipush (v := 8) C.1 C.2.1 dX2_keep_13 (by decide) ?_
  refine lv_irem C.1 C.2.1 dX2_keep_15 (by decide) ?_
  refine x_topi (z := 0) (by decide) ?_
  refine x_aldSt (b := hs) C hw 1 rfl (x_in rfl) f0 dX2_keep_16 ?_
  refine lv_aload_n C.1 C.2.1 dX2_keep_17 rfl (lv_at hl 1 rfl) ?_
  refine x_callvV (As := [.ref qz]) (rest := []) (wr := [(qh, .inr (2, [.ref hk, .int 0, .int 0])), (hk, eSt G 8 hf)]) C hw (c_X8_copyFrom hs qz h_hour h_heat h_black h_so h_cracked h_behind h_allSighs h_seed hpictures hshown hsighed fh_pictures fh_shown fh_sighed z_hour z_heat z_black z_so z_cracked z_behind z_allSighs z_seed zpictures zshown zsighed fz_pictures fz_shown fz_sighed hz_black) mwX8_copyFrom kw744 [2, 3, 4, 5, 6, 7, 8, 9] [0, 1] rfl rfl rfl rfl (by decide) 0 rfl rfl rfl rfl hl.1 rfl (Nat.le_of_ble_eq_true rfl) ⟨(Nat.le_of_ble_eq_true rfl), (Nat.le_of_ble_eq_true rfl)⟩ ⟨(Nat.le_of_ble_eq_true rfl), (Nat.le_of_ble_eq_true rfl)⟩ dX2_keep_18 (fun  u9 H locs hp9 hw => ?_)
  obtain rfl := hp9
  have hw : Wd G s A [(qh, .inr (2, [.ref hk, .int 0, .int 0])), (hk, eSt G 8 hf), (hs, .inr (7, [.int z_hour, .int z_heat, .int z_black, .int z_so, .int z_cracked, .int z_behind, .int z_allSighs, .int h_seed, .ref hpictures, .ref hshown, .ref hsighed])), (hpictures, eI G 6 (va_cpy fz_pictures fh_pictures 0 0 6)), (hshown, eI G 6 (va_cpy fz_shown fh_shown 0 0 6)), (hsighed, eI G 8 (va_cpy fz_sighed fh_sighed 0 0 8)), (qz, .inr (7, [.int z_hour, .int z_heat, .int z_black, .int z_so, .int z_cracked, .int z_behind, .int z_allSighs, .int z_seed, .ref zpictures, .ref zshown, .ref zsighed])), (zpictures, eI G 6 fz_pictures), (zshown, eI G 6 fz_shown), (zsighed, eI G 8 fz_sighed)] H _ := hw
  refine lv_aload_n C.1 C.2.1 dX2_keep_21 rfl (lv_at hl 0 rfl) ?_
  refine x_get C hw iwX2 2 rfl 0 rfl 2 (by decide) kw305 rfl dX2_keep_22 ?_
  refine lv_bipush (v := 8) C.1 C.2.1 dX2_keep_25 (by decide) ?_
  refine lv_icmp_ge (tgt := 43) C.1 C.2.1 dX2_keep_27 (by decide) (fun h9 => absurd h9 (by decide)) (fun _ => ?_)
  refine lv_aload_n C.1 C.2.1 dX2_keep_30 rfl (lv_at hl 0 rfl) ?_
  refine lv_dup C.1 C.2.1 dX2_keep_31 rfl ?_
  refine x_get C hw iwX2 2 rfl 0 rfl 2 (by decide) kw305 rfl dX2_keep_32 ?_
  refine lv_iconst (v := 1) C.1 C.2.1 dX2_keep_35 (by decide) ?_
  refine lv_iadd C.1 C.2.1 dX2_keep_36 ?_
  refine x_topi (z := 1) (by decide) ?_
  refine x_put (w' := [(qh, .inr (2, [.ref hk, .int 0, .int 1])), (hk, eSt G 8 hf), (hs, .inr (7, [.int z_hour, .int z_heat, .int z_black, .int z_so, .int z_cracked, .int z_behind, .int z_allSighs, .int h_seed, .ref hpictures, .ref hshown, .ref hsighed])), (hpictures, eI G 6 (va_cpy fz_pictures fh_pictures 0 0 6)), (hshown, eI G 6 (va_cpy fz_shown fh_shown 0 0 6)), (hsighed, eI G 8 (va_cpy fz_sighed fh_sighed 0 0 8)), (qz, .inr (7, [.int z_hour, .int z_heat, .int z_black, .int z_so, .int z_cracked, .int z_behind, .int z_allSighs, .int z_seed, .ref zpictures, .ref zshown, .ref zsighed])), (zpictures, eI G 6 fz_pictures), (zshown, eI G 6 fz_shown), (zsighed, eI G 8 fz_sighed)]) C hw iwX2 tyX2_ok nmX2 2 rfl 0 rfl 2 (by decide) kw305 rfl rfl rfl (Nat.le_of_ble_eq_true rfl) rfl dX2_keep_37 (fun H locs hw => ?_)
  refine lv_goto (tgt := 56) C.1 C.2.1 dX2_keep_40 (by decide) ?_
  have hw := hw.sub (w' := []) [] rfl rfl
  exact x_retv B hw rfl (Nat.le_of_ble_eq_true rfl) (Nat.le_of_ble_eq_true rfl) dX2_keep_56
theorem dX10_hours_0 : decode cX10_hours 0 = .ok (.iload_n 1, 1) := by decide +kernel
theorem dX10_hours_1 : decode cX10_hours 1 = .ok (.iconst 1, 1) := by decide +kernel
theorem dX10_hours_2 : decode cX10_hours 2 = .ok (.if_icmp .lt 9, 3) := by decide +kernel
theorem dX10_hours_5 : decode cX10_hours 5 = .ok (.iload_n 1, 1) := by decide +kernel
theorem dX10_hours_6 : decode cX10_hours 6 = .ok (.bipush 24, 2) := by decide +kernel
theorem dX10_hours_8 : decode cX10_hours 8 = .ok (.if_icmp .le 5, 3) := by decide +kernel
theorem dX10_hours_13 : decode cX10_hours 13 = .ok (.aload_n 0, 1) := by decide +kernel
theorem dX10_hours_14 : decode cX10_hours 14 = .ok (.getfield 33, 3) := by decide +kernel
theorem dX10_hours_17 : decode cX10_hours 17 = .ok (.aload_n 0, 1) := by decide +kernel
theorem dX10_hours_18 : decode cX10_hours 18 = .ok (.getfield 29, 3) := by decide +kernel
theorem dX10_hours_21 : decode cX10_hours 21 = .ok (.invokevirtual 226, 3) := by decide +kernel
theorem dX10_hours_24 : decode cX10_hours 24 = .ok (.aload_n 0, 1) := by decide +kernel
theorem dX10_hours_25 : decode cX10_hours 25 = .ok (.getfield 29, 3) := by decide +kernel
theorem dX10_hours_28 : decode cX10_hours 28 = .ok (.iload_n 1, 1) := by decide +kernel
theorem dX10_hours_29 : decode cX10_hours 29 = .ok (.invokevirtual 248, 3) := by decide +kernel
theorem mwX8_letHoursGo : MwV yX8_letHoursGo cX8_letHoursGo 4 (some .int) 1 := ⟨⟨kw776, kw8, by decide +kernel⟩, kw774, kw775⟩
theorem dX10_hours_32 : decode cX10_hours 32 = .ok (.istore_n 2, 1) := by decide +kernel
theorem dX10_hours_33 : decode cX10_hours 33 = .ok (.iload_n 2, 1) := by decide +kernel
theorem dX10_hours_34 : decode cX10_hours 34 = .ok (.ifCond .le 14, 3) := by decide +kernel
theorem dX10_hours_37 : decode cX10_hours 37 = .ok (.aload_n 0, 1) := by decide +kernel
theorem dX10_hours_38 : decode cX10_hours 38 = .ok (.getfield 39, 3) := by decide +kernel
theorem dX10_hours_41 : decode cX10_hours 41 = .ok (.aload_n 0, 1) := by decide +kernel
theorem dX10_hours_42 : decode cX10_hours 42 = .ok (.getfield 33, 3) := by decide +kernel
theorem dX10_hours_45 : decode cX10_hours 45 = .ok (.invokevirtual 242, 3) := by decide +kernel
theorem mwX2_keep : MwV yX2_keep cX2_keep 2 none 1 := ⟨⟨kw743, kw9, by decide +kernel⟩, kw741, kw742⟩
theorem dX10_hours_48 : decode cX10_hours 48 = .ok (.iload_n 2, 1) := by decide +kernel
theorem dX10_hours_49 : decode cX10_hours 49 = .ok (.ireturn, 1) := by decide +kernel
set_option maxHeartbeats 4000000 in
set_option maxRecDepth 100000 in
theorem c_X10_hours__G {l : Launch} {G : Gc} (qx : Nat) (qt : Nat) (qs : Nat) (qd : Nat) (qa : Nat) (qb : Nat) (qh : Nat) (qr : Nat) (qe : Nat) (qp : Nat) (qf : Nat) (qn : Nat) (qi : Nat) (qo : Nat) (apictures : Nat) (ashown : Nat) (asighed : Nat) (bpictures : Nat) (bshown : Nat) (bsighed : Nat) (hk : Nat) (hf : Nat → Option Nat) (hs : Nat) (hpictures : Nat) (hshown : Nat) (hsighed : Nat) (j9 : Nat) (f0 : hf 0 = some hs) (h1 : 1 ≤ j9) (hj : j9 ≤ 24) : Ci l yX10_hours cX10_hours 3 (some .int) 3 0 0 G [.ref qx, .int (nI j9)] [(qx, .inr (9, [.ref qt, .ref qs, .ref qd, .ref qa, .ref qb, .ref qh, .ref qr, .ref qe, .ref qp, .ref qf, .ref qn, .ref qi, .ref qo, .int 0, .int 0, .int (-1), .int (-1)])), (qa, .inr (7, [.int 0, .int 0, .int 0, .int 0, .int 0, .int 0, .int 0, .int 0, .ref apictures, .ref ashown, .ref asighed])), (apictures, eI G 6 (fun _ => 0)), (ashown, eI G 6 (fun _ => 0)), (asighed, eI G 8 (fun _ => 0)), (qb, .inr (7, [.int 0, .int 0, .int 0, .int 0, .int 0, .int 0, .int 0, .int 0, .ref bpictures, .ref bshown, .ref bsighed])), (bpictures, eI G 6 (fun _ => 0)), (bshown, eI G 6 (fun _ => 0)), (bsighed, eI G 8 (fun _ => 0)), (qh, .inr (2, [.ref hk, .int 0, .int 0])), (hk, eSt G 8 hf), (hs, .inr (7, [.int 0, .int 0, .int 0, .int 0, .int 0, .int 0, .int 0, .int 0, .ref hpictures, .ref hshown, .ref hsighed])), (hpictures, eI G 6 (fun _ => 0)), (hshown, eI G 6 (fun _ => 0)), (hsighed, eI G 8 (fun _ => 0))] (fun (r9 : Int32) (u9 : va_W) => r9 = (nI j9) ∧ u9 = []) := by
  refine Ci.of (by decide) (Nat.le_of_ble_eq_true rfl) ?_
  intro p e s m below meth c ls A B hw hl
  have C : CallFix p m c cX10_hours 3 s _ gw "LanternState" := B.1
  have hl : lv_has ls 3 [(0, .ref qx), (1, .int (nI j9))] := hl
  refine lv_iload_n C.1 C.2.1 dX10_hours_0 rfl (lv_at hl 1 rfl) ?_
  refine lv_iconst (v := 1) C.1 C.2.1 dX10_hours_1 (by decide) ?_
  refine lv_icmp_lt (tgt := 11) C.1 C.2.1 dX10_hours_2 (by decide) (fun h9 => absurd h9 (nI_nlt (a := j9) (b := 1) h1 (by omega))) (fun _ => ?_)
  refine lv_iload_n C.1 C.2.1 dX10_hours_5 rfl (lv_at hl 1 rfl) ?_
  refine lv_bipush (v := 24) C.1 C.2.1 dX10_hours_6 (by decide) ?_
  refine lv_icmp_le (tgt := 13) C.1 C.2.1 dX10_hours_8 (by decide) (fun _ => ?_) (fun h9 => absurd (nI_le (a := j9) (b := 24) hj (by decide)) h9)
  refine lv_aload_n C.1 C.2.1 dX10_hours_13 rfl (lv_at hl 0 rfl) ?_
  refine x_get C hw iwX10 9 rfl 0 rfl 4 (by decide) kw450 rfl dX10_hours_14 ?_
  refine lv_aload_n C.1 C.2.1 dX10_hours_17 rfl (lv_at hl 0 rfl) ?_
  refine x_get C hw iwX10 9 rfl 0 rfl 3 (by decide) kw449 rfl dX10_hours_18 ?_
  refine x_callvV (As := [.ref qa]) (rest := []) (wr := [(qx, .inr (9, [.ref qt, .ref qs, .ref qd, .ref qa, .ref qb, .ref qh, .ref qr, .ref qe, .ref qp, .ref qf, .ref qn, .ref qi, .ref qo, .int 0, .int 0, .int (-1), .int (-1)])), (qh, .inr (2, [.ref hk, .int 0, .int 0])), (hk, eSt G 8 hf), (hs, .inr (7, [.int 0, .int 0, .int 0, .int 0, .int 0, .int 0, .int 0, .int 0, .ref hpictures, .ref hshown, .ref hsighed])), (hpictures, eI G 6 (fun _ => 0)), (hshown, eI G 6 (fun _ => 0)), (hsighed, eI G 8 (fun _ => 0))]) C hw (c_X8_copyFrom qb qa 0 0 0 0 0 0 0 0 bpictures bshown bsighed (fun _ => 0) (fun _ => 0) (fun _ => 0) 0 0 0 0 0 0 0 0 apictures ashown asighed (fun _ => 0) (fun _ => 0) (fun _ => 0) isB0) mwX8_copyFrom kw690 [5, 6, 7, 8, 1, 2, 3, 4] [0, 9, 10, 11, 12, 13, 14] rfl rfl rfl rfl (by decide) 0 rfl rfl rfl rfl hl.1 rfl (Nat.le_of_ble_eq_true rfl) ⟨(Nat.le_of_ble_eq_true rfl), (Nat.le_of_ble_eq_true rfl)⟩ ⟨(Nat.le_of_ble_eq_true rfl), (Nat.le_of_ble_eq_true rfl)⟩ dX10_hours_21 (fun  u9 H locs hp9 hw => ?_)
  obtain rfl := hp9
  have hw : Wd G s A [(qx, .inr (9, [.ref qt, .ref qs, .ref qd, .ref qa, .ref qb, .ref qh, .ref qr, .ref qe, .ref qp, .ref qf, .ref qn, .ref qi, .ref qo, .int 0, .int 0, .int (-1), .int (-1)])), (qh, .inr (2, [.ref hk, .int 0, .int 0])), (hk, eSt G 8 hf), (hs, .inr (7, [.int 0, .int 0, .int 0, .int 0, .int 0, .int 0, .int 0, .int 0, .ref hpictures, .ref hshown, .ref hsighed])), (hpictures, eI G 6 (fun _ => 0)), (hshown, eI G 6 (fun _ => 0)), (hsighed, eI G 8 (fun _ => 0)), (qb, .inr (7, [.int 0, .int 0, .int 0, .int 0, .int 0, .int 0, .int 0, .int 0, .ref bpictures, .ref bshown, .ref bsighed])), (bpictures, eI G 6 (va_cpy (fun _ => 0) (fun _ => 0) 0 0 6)), (bshown, eI G 6 (va_cpy (fun _ => 0) (fun _ => 0) 0 0 6)), (bsighed, eI G 8 (va_cpy (fun _ => 0) (fun _ => 0) 0 0 8)), (qa, .inr (7, [.int 0, .int 0, .int 0, .int 0, .int 0, .int 0, .int 0, .int 0, .ref apictures, .ref ashown, .ref asighed])), (apictures, eI G 6 (fun _ => 0)), (ashown, eI G 6 (fun _ => 0)), (asighed, eI G 8 (fun _ => 0))] H _ := hw
  refine lv_aload_n C.1 C.2.1 dX10_hours_24 rfl (lv_at hl 0 rfl) ?_
  refine x_get C hw iwX10 9 rfl 0 rfl 3 (by decide) kw449 rfl dX10_hours_25 ?_
  refine lv_iload_n C.1 C.2.1 dX10_hours_28 rfl (lv_at hl 1 rfl) ?_
  refine x_calliV (As := [.int (nI j9)]) (rest := []) (wr := [(qx, .inr (9, [.ref qt, .ref qs, .ref qd, .ref qa, .ref qb, .ref qh, .ref qr, .ref qe, .ref qp, .ref qf, .ref qn, .ref qi, .ref qo, .int 0, .int 0, .int (-1), .int (-1)])), (qh, .inr (2, [.ref hk, .int 0, .int 0])), (hk, eSt G 8 hf), (hs, .inr (7, [.int 0, .int 0, .int 0, .int 0, .int 0, .int 0, .int 0, .int 0, .ref hpictures, .ref hshown, .ref hsighed])), (hpictures, eI G 6 (fun _ => 0)), (hshown, eI G 6 (fun _ => 0)), (hsighed, eI G 8 (fun _ => 0)), (qb, .inr (7, [.int 0, .int 0, .int 0, .int 0, .int 0, .int 0, .int 0, .int 0, .ref bpictures, .ref bshown, .ref bsighed])), (bpictures, eI G 6 (va_cpy (fun _ => 0) (fun _ => 0) 0 0 6)), (bshown, eI G 6 (va_cpy (fun _ => 0) (fun _ => 0) 0 0 6)), (bsighed, eI G 8 (va_cpy (fun _ => 0) (fun _ => 0) 0 0 8)), (apictures, eI G 6 (fun _ => 0)), (ashown, eI G 6 (fun _ => 0)), (asighed, eI G 8 (fun _ => 0))]) C hw (c_X8_letHoursGo qa j9 apictures ashown asighed hj) mwX8_letHoursGo kw773 [11] [0, 1, 2, 3, 4, 5, 6, 7, 8, 9, 10, 12, 13, 14] rfl rfl rfl rfl (by decide) 0 rfl rfl rfl rfl hl.1 rfl (Nat.le_of_ble_eq_true rfl) ⟨(Nat.le_of_ble_eq_true rfl), (Nat.le_of_ble_eq_true rfl)⟩ ⟨(Nat.le_of_ble_eq_true rfl), (Nat.le_of_ble_eq_true rfl)⟩ dX10_hours_29 (fun r1 u9 H locs hp9 hw => ?_)
  obtain ⟨rfl, rfl⟩ := hp9
  have hw : Wd G s A [(qx, .inr (9, [.ref qt, .ref qs, .ref qd, .ref qa, .ref qb, .ref qh, .ref qr, .ref qe, .ref qp, .ref qf, .ref qn, .ref qi, .ref qo, .int 0, .int 0, .int (-1), .int (-1)])), (qh, .inr (2, [.ref hk, .int 0, .int 0])), (hk, eSt G 8 hf), (hs, .inr (7, [.int 0, .int 0, .int 0, .int 0, .int 0, .int 0, .int 0, .int 0, .ref hpictures, .ref hshown, .ref hsighed])), (hpictures, eI G 6 (fun _ => 0)), (hshown, eI G 6 (fun _ => 0)), (hsighed, eI G 8 (fun _ => 0)), (qb, .inr (7, [.int 0, .int 0, .int 0, .int 0, .int 0, .int 0, .int 0, .int 0, .ref bpictures, .ref bshown, .ref bsighed])), (bpictures, eI G 6 (va_cpy (fun _ => 0) (fun _ => 0) 0 0 6)), (bshown, eI G 6 (va_cpy (fun _ => 0) (fun _ => 0) 0 0 6)), (bsighed, eI G 8 (va_cpy (fun _ => 0) (fun _ => 0) 0 0 8)), (apictures, eI G 6 (fun _ => 0)), (ashown, eI G 6 (fun _ => 0)), (asighed, eI G 8 (fun _ => 0))] H _ := hw
  refine lv_istore_n (lv' := [(2, .int (nI j9)), (0, .ref qx), (1, .int (nI j9))]) C.1 C.2.1 dX10_hours_32 rfl hl (by decide) rfl (fun ls hl => ?_)
  refine lv_iload_n C.1 C.2.1 dX10_hours_33 rfl (lv_at hl 0 rfl) ?_
  refine lv_if_le (tgt := 48) C.1 C.2.1 dX10_hours_34 (by decide) (fun h9 => absurd h9 (nI_nle h1 (by omega))) (fun _ => ?_)
  refine lv_aload_n C.1 C.2.1 dX10_hours_37 rfl (lv_at hl 1 rfl) ?_
  refine x_get C hw iwX10 9 rfl 0 rfl 5 (by decide) kw451 rfl dX10_hours_38 ?_
  refine lv_aload_n C.1 C.2.1 dX10_hours_41 rfl (lv_at hl 1 rfl) ?_
  refine x_get C hw iwX10 9 rfl 0 rfl 4 (by decide) kw450 rfl dX10_hours_42 ?_
  refine x_callvV (As := [.ref qb]) (rest := []) (wr := [(qx, .inr (9, [.ref qt, .ref qs, .ref qd, .ref qa, .ref qb, .ref qh, .ref qr, .ref qe, .ref qp, .ref qf, .ref qn, .ref qi, .ref qo, .int 0, .int 0, .int (-1), .int (-1)])), (apictures, eI G 6 (fun _ => 0)), (ashown, eI G 6 (fun _ => 0)), (asighed, eI G 8 (fun _ => 0))]) C hw (c_X2_keep qh qb hk hf hs 0 0 0 0 0 0 0 0 hpictures hshown hsighed (fun _ => 0) (fun _ => 0) (fun _ => 0) 0 0 0 0 0 0 0 0 bpictures bshown bsighed (va_cpy (fun _ => 0) (fun _ => 0) 0 0 6) (va_cpy (fun _ => 0) (fun _ => 0) 0 0 6) (va_cpy (fun _ => 0) (fun _ => 0) 0 0 8) f0 isB0) mwX2_keep kw740 [1, 2, 3, 4, 5, 6, 7, 8, 9, 10] [0, 11, 12, 13] rfl rfl rfl rfl (by decide) 0 rfl rfl rfl rfl hl.1 rfl (Nat.le_of_ble_eq_true rfl) ⟨(Nat.le_of_ble_eq_true rfl), (Nat.le_of_ble_eq_true rfl)⟩ ⟨(Nat.le_of_ble_eq_true rfl), (Nat.le_of_ble_eq_true rfl)⟩ dX10_hours_45 (fun  u9 H locs hp9 hw => ?_)
  obtain rfl := hp9
  have hw : Wd G s A [(qx, .inr (9, [.ref qt, .ref qs, .ref qd, .ref qa, .ref qb, .ref qh, .ref qr, .ref qe, .ref qp, .ref qf, .ref qn, .ref qi, .ref qo, .int 0, .int 0, .int (-1), .int (-1)])), (apictures, eI G 6 (fun _ => 0)), (ashown, eI G 6 (fun _ => 0)), (asighed, eI G 8 (fun _ => 0))] H _ := hw
  refine lv_iload_n C.1 C.2.1 dX10_hours_48 rfl (lv_at hl 0 rfl) ?_
  have hw := hw.sub (w' := []) [] rfl rfl
  exact x_reti B hw ⟨rfl, rfl⟩ (Nat.le_of_ble_eq_true rfl) (Nat.le_of_ble_eq_true rfl) dX10_hours_49
theorem dX10_hours_11 : decode cX10_hours 11 = .ok (.iconst (-1), 1) := by decide +kernel
theorem dX10_hours_12 : decode cX10_hours 12 = .ok (.ireturn, 1) := by decide +kernel
set_option maxHeartbeats 4000000 in
set_option maxRecDepth 100000 in
theorem c_X10_hours__B {l : Launch} {G : Gc} (qx : Nat) (a1 : Int32) (qt : Nat) (qs : Nat) (qd : Nat) (qa : Nat) (qb : Nat) (qh : Nat) (qr : Nat) (qe : Nat) (qp : Nat) (qf : Nat) (qn : Nat) (qi : Nat) (qo : Nat) (hb : a1 < 1 ∨ 24 < a1) : Ci l yX10_hours cX10_hours 3 (some .int) 0 0 0 G [.ref qx, .int a1] [(qx, .inr (9, [.ref qt, .ref qs, .ref qd, .ref qa, .ref qb, .ref qh, .ref qr, .ref qe, .ref qp, .ref qf, .ref qn, .ref qi, .ref qo, .int 0, .int 0, .int (-1), .int (-1)]))] (fun (r9 : Int32) (u9 : va_W) => r9 = (-1) ∧ u9 = []) := by
  refine Ci.of (by decide) (Nat.le_of_ble_eq_true rfl) ?_
  intro p e s m below meth c ls A B hw hl
  have C : CallFix p m c cX10_hours 3 s _ gw "LanternState" := B.1
  have hl : lv_has ls 3 [(0, .ref qx), (1, .int a1)] := hl
  refine lv_iload_n C.1 C.2.1 dX10_hours_0 rfl (lv_at hl 1 rfl) ?_
  refine lv_iconst (v := 1) C.1 C.2.1 dX10_hours_1 (by decide) ?_
  refine lv_icmp_lt (tgt := 11) C.1 C.2.1 dX10_hours_2 (by decide) (fun c_2 => ?_) (fun c_2 => ?_)
  · skip
    refine lv_iconst (v := (-1)) C.1 C.2.1 dX10_hours_11 (by decide) ?_
    have hw := hw.sub (w' := []) [] rfl rfl
    exact x_reti B hw ⟨rfl, rfl⟩ (Nat.le_of_ble_eq_true rfl) (Nat.le_of_ble_eq_true rfl) dX10_hours_12
  · skip
    refine lv_iload_n C.1 C.2.1 dX10_hours_5 rfl (lv_at hl 1 rfl) ?_
    refine lv_bipush (v := 24) C.1 C.2.1 dX10_hours_6 (by decide) ?_
    refine lv_icmp_le (tgt := 13) C.1 C.2.1 dX10_hours_8 (by decide) (fun h9 => absurd h9 (x_bad hb c_2)) (fun _ => ?_)
    refine lv_iconst (v := (-1)) C.1 C.2.1 dX10_hours_11 (by decide) ?_
    have hw := hw.sub (w' := []) [] rfl rfl
    exact x_reti B hw ⟨rfl, rfl⟩ (Nat.le_of_ble_eq_true rfl) (Nat.le_of_ble_eq_true rfl) dX10_hours_12
theorem dX1_read_0 : decode cX1_read 0 = .ok (.aload_n 0, 1) := by decide +kernel
theorem dX1_read_1 : decode cX1_read 1 = .ok (.iconst 0, 1) := by decide +kernel
theorem dX1_read_2 : decode cX1_read 2 = .ok (.putfield 24, 3) := by decide +kernel
theorem dX1_read_5 : decode cX1_read 5 = .ok (.aload_n 1, 1) := by decide +kernel
theorem dX1_read_6 : decode cX1_read 6 = .ok (.invokevirtual 28, 3) := by decide +kernel
theorem dX1_read_9 : decode cX1_read 9 = .ok (.aload_n 0, 1) := by decide +kernel
theorem dX1_read_10 : decode cX1_read 10 = .ok (.getfield 24, 3) := by decide +kernel
theorem dX1_read_13 : decode cX1_read 13 = .ok (.bipush 40, 2) := by decide +kernel
theorem dX1_read_15 : decode cX1_read 15 = .ok (.if_icmp .gt 45, 3) := by decide +kernel
theorem dX1_read_18 : decode cX1_read 18 = .ok (.aload_n 1, 1) := by decide +kernel
theorem dX1_read_19 : decode cX1_read 19 = .ok (.getfield 33, 3) := by decide +kernel
theorem dX1_read_22 : decode cX1_read 22 = .ok (.ifCond .eq 38, 3) := by decide +kernel
theorem dX1_read_60 : decode cX1_read 60 = .ok (.iconst 1, 1) := by decide +kernel
theorem dX1_read_61 : decode cX1_read 61 = .ok (.ireturn, 1) := by decide +kernel
set_option maxHeartbeats 4000000 in
set_option maxRecDepth 100000 in
theorem c_X1_read {l : Launch} {G : Gc} (qp : Nat) (qt : Nat) (qs : Nat) (pkeys : Nat) (pwhos : Nat) (pfirsts : Nat) (pseconds : Nat) (l9 : Int32) (w9 : Int32) (kc : Nat) (bys : Nat) (tmo : Int32) (tki : Int32) (tpl : Int32) (tva : Int32) (tco : Int64) (tke : Int32) (tfa : Int32) (tfp : Int32) (hm : (0 : Int32) ≤ tmo) : Ci l yX1_read cX1_read 3 (some .boolean) 2 0 0 G [.ref qp, .ref qt, .ref qs] [(qp, .inr (1, [.ref pkeys, .ref pwhos, .ref pfirsts, .ref pseconds, .int l9, .int w9])), (qt, .inr (8, [.ref kc, .ref bys, .int 0, .int tmo, .int 0, .int tki, .int tpl, .int tva, .long tco, .int tke, .int tfa, .int tfp]))] (fun (r9 : Int32) (u9 : va_W) => r9 = 1 ∧ u9 = [(qp, .inr (1, [.ref pkeys, .ref pwhos, .ref pfirsts, .ref pseconds, .int 0, .int w9])), (qt, .inr (8, [.ref kc, .ref bys, .int 0, .int tmo, .int 0, .int 0, .int 0, .int 0, .long 0, .int (-1), .int tfa, .int tfp]))]) := by
  refine Ci.of (by decide) (Nat.le_of_ble_eq_true rfl) ?_
  intro p e s m below meth c ls A B hw hl
  have C : CallFix p m c cX1_read 3 s _ gw "LanternState$Book" := B.1
  have hl : lv_has ls 3 [(0, .ref qp), (1, .ref qt), (2, .ref qs)] := hl
  refine lv_aload_n C.1 C.2.1 dX1_read_0 rfl (lv_at hl 0 rfl) ?_
  refine lv_iconst (v := 0) C.1 C.2.1 dX1_read_1 (by decide) ?_
  refine x_put (w' := [(qp, .inr (1, [.ref pkeys, .ref pwhos, .ref pfirsts, .ref pseconds, .int 0, .int w9])), (qt, .inr (8, [.ref kc, .ref bys, .int 0, .int tmo, .int 0, .int tki, .int tpl, .int tva, .long tco, .int tke, .int tfa, .int tfp]))]) C hw iwX1 tyX1_ok nmX1 1 rfl 0 rfl 4 (by decide) kw354 rfl rfl rfl (Nat.le_of_ble_eq_true rfl) rfl dX1_read_2 (fun H locs hw => ?_)
  refine lv_aload_n C.1 C.2.1 dX1_read_5 rfl (lv_at hl 1 rfl) ?_
  refine x_callvV (As := []) (rest := []) (wr := [(qp, .inr (1, [.ref pkeys, .ref pwhos, .ref pfirsts, .ref pseconds, .int 0, .int w9]))]) C hw (c_X9_next0 qt kc bys tmo tki tpl tva tco tke tfa tfp hm) mwX9_next kw960 [1] [0] rfl rfl rfl rfl (by decide) 0 rfl rfl rfl rfl hl.1 rfl (Nat.le_of_ble_eq_true rfl) ⟨(Nat.le_of_ble_eq_true rfl), (Nat.le_of_ble_eq_true rfl)⟩ ⟨(Nat.le_of_ble_eq_true rfl), (Nat.le_of_ble_eq_true rfl)⟩ dX1_read_6 (fun  u9 H locs hp9 hw => ?_)
  obtain rfl := hp9
  have hw : Wd G s A [(qp, .inr (1, [.ref pkeys, .ref pwhos, .ref pfirsts, .ref pseconds, .int 0, .int w9])), (qt, .inr (8, [.ref kc, .ref bys, .int 0, .int tmo, .int 0, .int 0, .int 0, .int 0, .long 0, .int (-1), .int tfa, .int tfp]))] H _ := hw
  refine lv_aload_n C.1 C.2.1 dX1_read_9 rfl (lv_at hl 0 rfl) ?_
  refine x_get C hw iwX1 1 rfl 0 rfl 4 (by decide) kw354 rfl dX1_read_10 ?_
  refine lv_bipush (v := 40) C.1 C.2.1 dX1_read_13 (by decide) ?_
  refine lv_icmp_gt (tgt := 60) C.1 C.2.1 dX1_read_15 (by decide) (fun h9 => absurd h9 (by decide)) (fun _ => ?_)
  refine lv_aload_n C.1 C.2.1 dX1_read_18 rfl (lv_at hl 1 rfl) ?_
  refine x_get C hw iwX9 8 rfl 1 rfl 5 (by decide) kw94 rfl dX1_read_19 ?_
  refine lv_if_eq (tgt := 60) C.1 C.2.1 dX1_read_22 (by decide) (fun _ => ?_) (fun h9 => absurd (by decide) h9)
  refine lv_iconst (v := 1) C.1 C.2.1 dX1_read_60 (by decide) ?_
  exact x_retz B hw rfl ⟨rfl, rfl⟩ (Nat.le_of_ble_eq_true rfl) (Nat.le_of_ble_eq_true rfl) dX1_read_61
theorem dX1_liveIn_0 : decode cX1_liveIn 0 = .ok (.aload_n 0, 1) := by decide +kernel
theorem dX1_liveIn_1 : decode cX1_liveIn 1 = .ok (.iconst 0, 1) := by decide +kernel
theorem dX1_liveIn_2 : decode cX1_liveIn 2 = .ok (.putfield 93, 3) := by decide +kernel
theorem dX1_liveIn_5 : decode cX1_liveIn 5 = .ok (.iconst 0, 1) := by decide +kernel
theorem dX1_liveIn_6 : decode cX1_liveIn 6 = .ok (.istore_n 3, 1) := by decide +kernel
theorem dX1_liveIn_7 : decode cX1_liveIn 7 = .ok (.iload_n 3, 1) := by decide +kernel
theorem dX1_liveIn_8 : decode cX1_liveIn 8 = .ok (.aload_n 0, 1) := by decide +kernel
theorem dX1_liveIn_9 : decode cX1_liveIn 9 = .ok (.getfield 24, 3) := by decide +kernel
theorem dX1_liveIn_12 : decode cX1_liveIn 12 = .ok (.if_icmp .ge 35, 3) := by decide +kernel
theorem dX1_liveIn_47 : decode cX1_liveIn 47 = .ok (.iconst (-1), 1) := by decide +kernel
theorem dX1_liveIn_48 : decode cX1_liveIn 48 = .ok (.ireturn, 1) := by decide +kernel
set_option maxHeartbeats 4000000 in
set_option maxRecDepth 100000 in
theorem c_X1_liveIn {l : Launch} {G : Gc} (qp : Nat) (qs : Nat) (qz : Nat) (pkeys : Nat) (pwhos : Nat) (pfirsts : Nat) (pseconds : Nat) (w9 : Int32)  : Ci l yX1_liveIn cX1_liveIn 4 (some .int) 0 0 0 G [.ref qp, .ref qs, .ref qz] [(qp, .inr (1, [.ref pkeys, .ref pwhos, .ref pfirsts, .ref pseconds, .int 0, .int w9]))] (fun (r9 : Int32) (u9 : va_W) => r9 = (-1) ∧ u9 = [(qp, .inr (1, [.ref pkeys, .ref pwhos, .ref pfirsts, .ref pseconds, .int 0, .int 0]))]) := by
  refine Ci.of (by decide) (Nat.le_of_ble_eq_true rfl) ?_
  intro p e s m below meth c ls A B hw hl
  have C : CallFix p m c cX1_liveIn 4 s _ gw "LanternState$Book" := B.1
  have hl : lv_has ls 4 [(0, .ref qp), (1, .ref qs), (2, .ref qz)] := hl
  refine lv_aload_n C.1 C.2.1 dX1_liveIn_0 rfl (lv_at hl 0 rfl) ?_
  refine lv_iconst (v := 0) C.1 C.2.1 dX1_liveIn_1 (by decide) ?_
  refine x_put (w' := [(qp, .inr (1, [.ref pkeys, .ref pwhos, .ref pfirsts, .ref pseconds, .int 0, .int 0]))]) C hw iwX1 tyX1_ok nmX1 1 rfl 0 rfl 5 (by decide) kw356 rfl rfl rfl (Nat.le_of_ble_eq_true rfl) rfl dX1_liveIn_2 (fun H locs hw => ?_)
  refine lv_iconst (v := 0) C.1 C.2.1 dX1_liveIn_5 (by decide) ?_
  refine lv_istore_n (lv' := [(3, .int 0), (0, .ref qp), (1, .ref qs), (2, .ref qz)]) C.1 C.2.1 dX1_liveIn_6 rfl hl (by decide) rfl (fun ls hl => ?_)
  refine lv_iload_n C.1 C.2.1 dX1_liveIn_7 rfl (lv_at hl 0 rfl) ?_
  refine lv_aload_n C.1 C.2.1 dX1_liveIn_8 rfl (lv_at hl 1 rfl) ?_
  refine x_get C hw iwX1 1 rfl 0 rfl 4 (by decide) kw354 rfl dX1_liveIn_9 ?_
  refine lv_icmp_ge (tgt := 47) C.1 C.2.1 dX1_liveIn_12 (by decide) (fun _ => ?_) (fun h9 => absurd (by decide) h9)
  refine lv_iconst (v := (-1)) C.1 C.2.1 dX1_liveIn_47 (by decide) ?_
  exact x_reti B hw ⟨rfl, rfl⟩ (Nat.le_of_ble_eq_true rfl) (Nat.le_of_ble_eq_true rfl) dX1_liveIn_48
theorem dX10_book_0 : decode cX10_book 0 = .ok (.iload_n 1, 1) := by decide +kernel
theorem dX10_book_1 : decode cX10_book 1 = .ok (.ifCond .eq 12, 3) := by decide +kernel
theorem dX10_book_13 : decode cX10_book 13 = .ok (.aload_n 0, 1) := by decide +kernel
theorem dX10_book_14 : decode cX10_book 14 = .ok (.getfield 10, 3) := by decide +kernel
theorem dX10_book_17 : decode cX10_book 17 = .ok (.sipush 400, 3) := by decide +kernel
theorem dX10_book_20 : decode cX10_book 20 = .ok (.invokevirtual 99, 3) := by decide +kernel
theorem dX10_book_23 : decode cX10_book 23 = .ok (.aload_n 0, 1) := by decide +kernel
theorem dX10_book_24 : decode cX10_book 24 = .ok (.getfield 56, 3) := by decide +kernel
theorem dX10_book_27 : decode cX10_book 27 = .ok (.aload_n 0, 1) := by decide +kernel
theorem dX10_book_28 : decode cX10_book 28 = .ok (.getfield 10, 3) := by decide +kernel
theorem dX10_book_31 : decode cX10_book 31 = .ok (.aload_n 0, 1) := by decide +kernel
theorem dX10_book_32 : decode cX10_book 32 = .ok (.getfield 19, 3) := by decide +kernel
theorem dX10_book_35 : decode cX10_book 35 = .ok (.invokevirtual 312, 3) := by decide +kernel
theorem mwX1_read : MwV yX1_read cX1_read 3 (some .boolean) 2 := ⟨⟨kw959, kw11, by decide +kernel⟩, kw957, kw958⟩
theorem dX10_book_38 : decode cX10_book 38 = .ok (.istore_n 2, 1) := by decide +kernel
theorem dX10_book_39 : decode cX10_book 39 = .ok (.aload_n 0, 1) := by decide +kernel
theorem dX10_book_40 : decode cX10_book 40 = .ok (.invokevirtual 106, 3) := by decide +kernel
theorem dX10_book_43 : decode cX10_book 43 = .ok (.iload_n 2, 1) := by decide +kernel
theorem dX10_book_44 : decode cX10_book 44 = .ok (.ifCond .ne 14, 3) := by decide +kernel
theorem dX10_book_58 : decode cX10_book 58 = .ok (.aload_n 0, 1) := by decide +kernel
theorem dX10_book_59 : decode cX10_book 59 = .ok (.getfield 33, 3) := by decide +kernel
theorem dX10_book_62 : decode cX10_book 62 = .ok (.aload_n 0, 1) := by decide +kernel
theorem dX10_book_63 : decode cX10_book 63 = .ok (.getfield 29, 3) := by decide +kernel
theorem dX10_book_66 : decode cX10_book 66 = .ok (.invokevirtual 226, 3) := by decide +kernel
theorem dX10_book_69 : decode cX10_book 69 = .ok (.iload_n 1, 1) := by decide +kernel
theorem dX10_book_70 : decode cX10_book 70 = .ok (.iconst 1, 1) := by decide +kernel
theorem dX10_book_71 : decode cX10_book 71 = .ok (.if_icmp .ne 14, 3) := by decide +kernel
theorem dX10_book_85 : decode cX10_book 85 = .ok (.iload_n 1, 1) := by decide +kernel
theorem dX10_book_86 : decode cX10_book 86 = .ok (.iconst 1, 1) := by decide +kernel
theorem dX10_book_87 : decode cX10_book 87 = .ok (.if_icmp .ne 10, 3) := by decide +kernel
theorem dX10_book_97 : decode cX10_book 97 = .ok (.aload_n 0, 1) := by decide +kernel
theorem dX10_book_98 : decode cX10_book 98 = .ok (.getfield 33, 3) := by decide +kernel
theorem dX10_book_101 : decode cX10_book 101 = .ok (.astore_n 3, 1) := by decide +kernel
theorem dX10_book_102 : decode cX10_book 102 = .ok (.aload_n 0, 1) := by decide +kernel
theorem dX10_book_103 : decode cX10_book 103 = .ok (.getfield 56, 3) := by decide +kernel
theorem dX10_book_106 : decode cX10_book 106 = .ok (.aload_n 0, 1) := by decide +kernel
theorem dX10_book_107 : decode cX10_book 107 = .ok (.getfield 19, 3) := by decide +kernel
theorem dX10_book_110 : decode cX10_book 110 = .ok (.aload_n 3, 1) := by decide +kernel
theorem dX10_book_111 : decode cX10_book 111 = .ok (.invokevirtual 315, 3) := by decide +kernel
theorem mwX1_liveIn : MwV yX1_liveIn cX1_liveIn 4 (some .int) 2 := ⟨⟨kw991, kw11, by decide +kernel⟩, kw989, kw990⟩
theorem dX10_book_114 : decode cX10_book 114 = .ok (.istore 4, 2) := by decide +kernel
theorem dX10_book_116 : decode cX10_book 116 = .ok (.aload_n 0, 1) := by decide +kernel
theorem dX10_book_117 : decode cX10_book 117 = .ok (.iconst 1, 1) := by decide +kernel
theorem dX10_book_118 : decode cX10_book 118 = .ok (.putfield 318, 3) := by decide +kernel
theorem dX10_book_121 : decode cX10_book 121 = .ok (.aload_n 0, 1) := by decide +kernel
theorem dX10_book_122 : decode cX10_book 122 = .ok (.getfield 80, 3) := by decide +kernel
theorem dX10_book_125 : decode cX10_book 125 = .ok (.iconst 0, 1) := by decide +kernel
theorem dX10_book_126 : decode cX10_book 126 = .ok (.aload_n 0, 1) := by decide +kernel
theorem dX10_book_127 : decode cX10_book 127 = .ok (.getfield 56, 3) := by decide +kernel
theorem dX10_book_130 : decode cX10_book 130 = .ok (.getfield 321, 3) := by decide +kernel
theorem dX10_book_133 : decode cX10_book 133 = .ok (.iastore, 1) := by decide +kernel
theorem dX10_book_134 : decode cX10_book 134 = .ok (.aload_n 0, 1) := by decide +kernel
theorem dX10_book_135 : decode cX10_book 135 = .ok (.getfield 80, 3) := by decide +kernel
theorem dX10_book_138 : decode cX10_book 138 = .ok (.iconst 1, 1) := by decide +kernel
theorem dX10_book_139 : decode cX10_book 139 = .ok (.iload 4, 2) := by decide +kernel
theorem dX10_book_141 : decode cX10_book 141 = .ok (.iconst (-1), 1) := by decide +kernel
theorem dX10_book_142 : decode cX10_book 142 = .ok (.if_icmp .ne 13, 3) := by decide +kernel
theorem dX10_book_145 : decode cX10_book 145 = .ok (.aload_n 0, 1) := by decide +kernel
theorem dX10_book_146 : decode cX10_book 146 = .ok (.getfield 56, 3) := by decide +kernel
theorem dX10_book_149 : decode cX10_book 149 = .ok (.getfield 324, 3) := by decide +kernel
theorem dX10_book_152 : decode cX10_book 152 = .ok (.goto 5, 3) := by decide +kernel
theorem dX10_book_157 : decode cX10_book 157 = .ok (.iastore, 1) := by decide +kernel
theorem dX10_book_158 : decode cX10_book 158 = .ok (.aload_n 0, 1) := by decide +kernel
theorem dX10_book_159 : decode cX10_book 159 = .ok (.getfield 80, 3) := by decide +kernel
theorem dX10_book_162 : decode cX10_book 162 = .ok (.iconst 2, 1) := by decide +kernel
theorem dX10_book_163 : decode cX10_book 163 = .ok (.aload_n 3, 1) := by decide +kernel
theorem dX10_book_164 : decode cX10_book 164 = .ok (.getfield 214, 3) := by decide +kernel
theorem dX10_book_167 : decode cX10_book 167 = .ok (.iastore, 1) := by decide +kernel
theorem dX10_book_168 : decode cX10_book 168 = .ok (.aload_n 0, 1) := by decide +kernel
theorem dX10_book_169 : decode cX10_book 169 = .ok (.getfield 80, 3) := by decide +kernel
theorem dX10_book_172 : decode cX10_book 172 = .ok (.iconst 3, 1) := by decide +kernel
theorem dX10_book_173 : decode cX10_book 173 = .ok (.aload_n 3, 1) := by decide +kernel
theorem dX10_book_174 : decode cX10_book 174 = .ok (.getfield 149, 3) := by decide +kernel
theorem dX10_book_177 : decode cX10_book 177 = .ok (.iastore, 1) := by decide +kernel
theorem dX10_book_178 : decode cX10_book 178 = .ok (.iload 4, 2) := by decide +kernel
theorem dX10_book_180 : decode cX10_book 180 = .ok (.ireturn, 1) := by decide +kernel
set_option maxHeartbeats 4000000 in
set_option maxRecDepth 100000 in
theorem c_X10_book__0 {l : Launch} {G : Gc} (qx : Nat) (qt : Nat) (qs : Nat) (qd : Nat) (qa : Nat) (qb : Nat) (qh : Nat) (qr : Nat) (qe : Nat) (qp : Nat) (qf : Nat) (qn : Nat) (qi : Nat) (qo : Nat) (kc : Nat) (bys : Nat) (pkeys : Nat) (pwhos : Nat) (pfirsts : Nat) (pseconds : Nat) (apictures : Nat) (ashown : Nat) (asighed : Nat) (bpictures : Nat) (bshown : Nat) (bsighed : Nat) (hk : Nat) (hf : Nat → Option Nat) (hs : Nat) (hpictures : Nat) (hshown : Nat) (hsighed : Nat) (f0 : hf 0 = some hs) : Ci l yX10_book cX10_book 5 (some .int) 3 0 0 G [.ref qx, .int 0] [(qx, .inr (9, [.ref qt, .ref qs, .ref qd, .ref qa, .ref qb, .ref qh, .ref qr, .ref qe, .ref qp, .ref qf, .ref qn, .ref qi, .ref qo, .int 0, .int 0, .int (-1), .int (-1)])), (qt, .inr (8, [.ref kc, .ref bys, .int 0, .int 0, .int 0, .int 0, .int 0, .int 0, .long 0, .int 0, .int 0, .int 0])), (qp, .inr (1, [.ref pkeys, .ref pwhos, .ref pfirsts, .ref pseconds, .int 0, .int 0])), (qa, .inr (7, [.int 0, .int 0, .int 0, .int 0, .int 0, .int 0, .int 0, .int 0, .ref apictures, .ref ashown, .ref asighed])), (apictures, eI G 6 (fun _ => 0)), (ashown, eI G 6 (fun _ => 0)), (asighed, eI G 8 (fun _ => 0)), (qb, .inr (7, [.int 0, .int 0, .int 0, .int 0, .int 0, .int 0, .int 0, .int 0, .ref bpictures, .ref bshown, .ref bsighed])), (bpictures, eI G 6 (fun _ => 0)), (bshown, eI G 6 (fun _ => 0)), (bsighed, eI G 8 (fun _ => 0)), (qh, .inr (2, [.ref hk, .int 0, .int 0])), (hk, eSt G 8 hf), (hs, .inr (7, [.int 0, .int 0, .int 0, .int 0, .int 0, .int 0, .int 0, .int 0, .ref hpictures, .ref hshown, .ref hsighed])), (hpictures, eI G 6 (fun _ => 0)), (hshown, eI G 6 (fun _ => 0)), (hsighed, eI G 8 (fun _ => 0)), (qo, eI G 4 (fun _ => 0))] (fun (r9 : Int32) (u9 : va_W) => r9 = (-1) ∧ u9 = []) := by
  refine Ci.of (by decide) (Nat.le_of_ble_eq_true rfl) ?_
  intro p e s m below meth c ls A B hw hl
  have C : CallFix p m c cX10_book 5 s _ gw "LanternState" := B.1
  have hl : lv_has ls 5 [(0, .ref qx), (1, .int 0)] := hl
  refine lv_iload_n C.1 C.2.1 dX10_book_0 rfl (lv_at hl 1 rfl) ?_
  refine lv_if_eq (tgt := 13) C.1 C.2.1 dX10_book_1 (by decide) (fun _ => ?_) (fun h9 => absurd (by decide) h9)
  refine lv_aload_n C.1 C.2.1 dX10_book_13 rfl (lv_at hl 0 rfl) ?_
  refine x_get C hw iwX10 9 rfl 0 rfl 0 (by decide) kw446 rfl dX10_book_14 ?_
  refine lv_sipush (v := 400) C.1 C.2.1 dX10_book_17 (by decide) ?_
  refine x_callvV (As := [.int 400]) (rest := []) (wr := [(qx, .inr (9, [.ref qt, .ref qs, .ref qd, .ref qa, .ref qb, .ref qh, .ref qr, .ref qe, .ref qp, .ref qf, .ref qn, .ref qi, .ref qo, .int 0, .int 0, .int (-1), .int (-1)])), (qp, .inr (1, [.ref pkeys, .ref pwhos, .ref pfirsts, .ref pseconds, .int 0, .int 0])), (qa, .inr (7, [.int 0, .int 0, .int 0, .int 0, .int 0, .int 0, .int 0, .int 0, .ref apictures, .ref ashown, .ref asighed])), (apictures, eI G 6 (fun _ => 0)), (ashown, eI G 6 (fun _ => 0)), (asighed, eI G 8 (fun _ => 0)), (qb, .inr (7, [.int 0, .int 0, .int 0, .int 0, .int 0, .int 0, .int 0, .int 0, .ref bpictures, .ref bshown, .ref bsighed])), (bpictures, eI G 6 (fun _ => 0)), (bshown, eI G 6 (fun _ => 0)), (bsighed, eI G 8 (fun _ => 0)), (qh, .inr (2, [.ref hk, .int 0, .int 0])), (hk, eSt G 8 hf), (hs, .inr (7, [.int 0, .int 0, .int 0, .int 0, .int 0, .int 0, .int 0, .int 0, .ref hpictures, .ref hshown, .ref hsighed])), (hpictures, eI G 6 (fun _ => 0)), (hshown, eI G 6 (fun _ => 0)), (hsighed, eI G 8 (fun _ => 0)), (qo, eI G 4 (fun _ => 0))]) C hw (c_X9_open qt 400 kc bys 0 0 0 0 0 0 0 0 0 0) mwX9_open kw514 [1] [0, 2, 3, 4, 5, 6, 7, 8, 9, 10, 11, 12, 13, 14, 15, 16, 17] rfl rfl rfl rfl (by decide) 0 rfl rfl rfl rfl hl.1 rfl (Nat.le_of_ble_eq_true rfl) ⟨(Nat.le_of_ble_eq_true rfl), (Nat.le_of_ble_eq_true rfl)⟩ ⟨(Nat.le_of_ble_eq_true rfl), (Nat.le_of_ble_eq_true rfl)⟩ dX10_book_20 (fun  u9 H locs hp9 hw => ?_)
  obtain rfl := hp9
  have hw : Wd G s A [(qx, .inr (9, [.ref qt, .ref qs, .ref qd, .ref qa, .ref qb, .ref qh, .ref qr, .ref qe, .ref qp, .ref qf, .ref qn, .ref qi, .ref qo, .int 0, .int 0, .int (-1), .int (-1)])), (qp, .inr (1, [.ref pkeys, .ref pwhos, .ref pfirsts, .ref pseconds, .int 0, .int 0])), (qa, .inr (7, [.int 0, .int 0, .int 0, .int 0, .int 0, .int 0, .int 0, .int 0, .ref apictures, .ref ashown, .ref asighed])), (apictures, eI G 6 (fun _ => 0)), (ashown, eI G 6 (fun _ => 0)), (asighed, eI G 8 (fun _ => 0)), (qb, .inr (7, [.int 0, .int 0, .int 0, .int 0, .int 0, .int 0, .int 0, .int 0, .ref bpictures, .ref bshown, .ref bsighed])), (bpictures, eI G 6 (fun _ => 0)), (bshown, eI G 6 (fun _ => 0)), (bsighed, eI G 8 (fun _ => 0)), (qh, .inr (2, [.ref hk, .int 0, .int 0])), (hk, eSt G 8 hf), (hs, .inr (7, [.int 0, .int 0, .int 0, .int 0, .int 0, .int 0, .int 0, .int 0, .ref hpictures, .ref hshown, .ref hsighed])), (hpictures, eI G 6 (fun _ => 0)), (hshown, eI G 6 (fun _ => 0)), (hsighed, eI G 8 (fun _ => 0)), (qo, eI G 4 (fun _ => 0)), (qt, .inr (8, [.ref kc, .ref bys, .int 0, .int 400, .int 0, .int 0, .int 0, .int 0, .long 0, .int 0, .int 0, .int 0]))] H _ := hw
  refine lv_aload_n C.1 C.2.1 dX10_book_23 rfl (lv_at hl 0 rfl) ?_
  refine x_get C hw iwX10 9 rfl 0 rfl 8 (by decide) kw454 rfl dX10_book_24 ?_
  refine lv_aload_n C.1 C.2.1 dX10_book_27 rfl (lv_at hl 0 rfl) ?_
  refine x_get C hw iwX10 9 rfl 0 rfl 0 (by decide) kw446 rfl dX10_book_28 ?_
  refine lv_aload_n C.1 C.2.1 dX10_book_31 rfl (lv_at hl 0 rfl) ?_
  refine x_get C hw iwX10 9 rfl 0 rfl 1 (by decide) kw447 rfl dX10_book_32 ?_
  refine x_calliV (As := [.ref qt, .ref qs]) (rest := []) (wr := [(qx, .inr (9, [.ref qt, .ref qs, .ref qd, .ref qa, .ref qb, .ref qh, .ref qr, .ref qe, .ref qp, .ref qf, .ref qn, .ref qi, .ref qo, .int 0, .int 0, .int (-1), .int (-1)])), (qa, .inr (7, [.int 0, .int 0, .int 0, .int 0, .int 0, .int 0, .int 0, .int 0, .ref apictures, .ref ashown, .ref asighed])), (apictures, eI G 6 (fun _ => 0)), (ashown, eI G 6 (fun _ => 0)), (asighed, eI G 8 (fun _ => 0)), (qb, .inr (7, [.int 0, .int 0, .int 0, .int 0, .int 0, .int 0, .int 0, .int 0, .ref bpictures, .ref bshown, .ref bsighed])), (bpictures, eI G 6 (fun _ => 0)), (bshown, eI G 6 (fun _ => 0)), (bsighed, eI G 8 (fun _ => 0)), (qh, .inr (2, [.ref hk, .int 0, .int 0])), (hk, eSt G 8 hf), (hs, .inr (7, [.int 0, .int 0, .int 0, .int 0, .int 0, .int 0, .int 0, .int 0, .ref hpictures, .ref hshown, .ref hsighed])), (hpictures, eI G 6 (fun _ => 0)), (hshown, eI G 6 (fun _ => 0)), (hsighed, eI G 8 (fun _ => 0)), (qo, eI G 4 (fun _ => 0))]) C hw (c_X1_read qp qt qs pkeys pwhos pfirsts pseconds 0 0 kc bys 400 0 0 0 0 0 0 0 (by decide)) mwX1_read kw956 [1, 17] [0, 2, 3, 4, 5, 6, 7, 8, 9, 10, 11, 12, 13, 14, 15, 16] rfl rfl rfl rfl (by decide) 0 rfl rfl rfl rfl hl.1 rfl (Nat.le_of_ble_eq_true rfl) ⟨(Nat.le_of_ble_eq_true rfl), (Nat.le_of_ble_eq_true rfl)⟩ ⟨(Nat.le_of_ble_eq_true rfl), (Nat.le_of_ble_eq_true rfl)⟩ dX10_book_35 (fun r1 u9 H locs hp9 hw => ?_)
  obtain ⟨rfl, rfl⟩ := hp9
  have hw : Wd G s A [(qx, .inr (9, [.ref qt, .ref qs, .ref qd, .ref qa, .ref qb, .ref qh, .ref qr, .ref qe, .ref qp, .ref qf, .ref qn, .ref qi, .ref qo, .int 0, .int 0, .int (-1), .int (-1)])), (qa, .inr (7, [.int 0, .int 0, .int 0, .int 0, .int 0, .int 0, .int 0, .int 0, .ref apictures, .ref ashown, .ref asighed])), (apictures, eI G 6 (fun _ => 0)), (ashown, eI G 6 (fun _ => 0)), (asighed, eI G 8 (fun _ => 0)), (qb, .inr (7, [.int 0, .int 0, .int 0, .int 0, .int 0, .int 0, .int 0, .int 0, .ref bpictures, .ref bshown, .ref bsighed])), (bpictures, eI G 6 (fun _ => 0)), (bshown, eI G 6 (fun _ => 0)), (bsighed, eI G 8 (fun _ => 0)), (qh, .inr (2, [.ref hk, .int 0, .int 0])), (hk, eSt G 8 hf), (hs, .inr (7, [.int 0, .int 0, .int 0, .int 0, .int 0, .int 0, .int 0, .int 0, .ref hpictures, .ref hshown, .ref hsighed])), (hpictures, eI G 6 (fun _ => 0)), (hshown, eI G 6 (fun _ => 0)), (hsighed, eI G 8 (fun _ => 0)), (qo, eI G 4 (fun _ => 0)), (qp, .inr (1, [.ref pkeys, .ref pwhos, .ref pfirsts, .ref pseconds, .int 0, .int 0])), (qt, .inr (8, [.ref kc, .ref bys, .int 0, .int 400, .int 0, .int 0, .int 0, .int 0, .long 0, .int (-1), .int 0, .int 0]))] H _ := hw
  refine lv_istore_n (lv' := [(2, .int 1), (0, .ref qx), (1, .int 0)]) C.1 C.2.1 dX10_book_38 rfl hl (by decide) rfl (fun ls hl => ?_)
  refine lv_aload_n C.1 C.2.1 dX10_book_39 rfl (lv_at hl 1 rfl) ?_
  refine x_callvV (As := []) (rest := []) (wr := [(qa, .inr (7, [.int 0, .int 0, .int 0, .int 0, .int 0, .int 0, .int 0, .int 0, .ref apictures, .ref ashown, .ref asighed])), (apictures, eI G 6 (fun _ => 0)), (ashown, eI G 6 (fun _ => 0)), (asighed, eI G 8 (fun _ => 0)), (qb, .inr (7, [.int 0, .int 0, .int 0, .int 0, .int 0, .int 0, .int 0, .int 0, .ref bpictures, .ref bshown, .ref bsighed])), (bpictures, eI G 6 (fun _ => 0)), (bshown, eI G 6 (fun _ => 0)), (bsighed, eI G 8 (fun _ => 0)), (qh, .inr (2, [.ref hk, .int 0, .int 0])), (hk, eSt G 8 hf), (hs, .inr (7, [.int 0, .int 0, .int 0, .int 0, .int 0, .int 0, .int 0, .int 0, .ref hpictures, .ref hshown, .ref hsighed])), (hpictures, eI G 6 (fun _ => 0)), (hshown, eI G 6 (fun _ => 0)), (hsighed, eI G 8 (fun _ => 0)), (qo, eI G 4 (fun _ => 0)), (qp, .inr (1, [.ref pkeys, .ref pwhos, .ref pfirsts, .ref pseconds, .int 0, .int 0]))]) C hw (c_X10_closeText qx qt qs qd qa qb qh qr qe qp qf qn qi qo 0 kc bys 0 400 0 0 0 0 0 (-1) 0 0) mwX10_closeText kw622 [0, 17] [1, 2, 3, 4, 5, 6, 7, 8, 9, 10, 11, 12, 13, 14, 15, 16] rfl rfl rfl rfl (by decide) 0 rfl rfl rfl rfl hl.1 rfl (Nat.le_of_ble_eq_true rfl) ⟨(Nat.le_of_ble_eq_true rfl), (Nat.le_of_ble_eq_true rfl)⟩ ⟨(Nat.le_of_ble_eq_true rfl), (Nat.le_of_ble_eq_true rfl)⟩ dX10_book_40 (fun  u9 H locs hp9 hw => ?_)
  obtain rfl := hp9
  have hw : Wd G s A [(qa, .inr (7, [.int 0, .int 0, .int 0, .int 0, .int 0, .int 0, .int 0, .int 0, .ref apictures, .ref ashown, .ref asighed])), (apictures, eI G 6 (fun _ => 0)), (ashown, eI G 6 (fun _ => 0)), (asighed, eI G 8 (fun _ => 0)), (qb, .inr (7, [.int 0, .int 0, .int 0, .int 0, .int 0, .int 0, .int 0, .int 0, .ref bpictures, .ref bshown, .ref bsighed])), (bpictures, eI G 6 (fun _ => 0)), (bshown, eI G 6 (fun _ => 0)), (bsighed, eI G 8 (fun _ => 0)), (qh, .inr (2, [.ref hk, .int 0, .int 0])), (hk, eSt G 8 hf), (hs, .inr (7, [.int 0, .int 0, .int 0, .int 0, .int 0, .int 0, .int 0, .int 0, .ref hpictures, .ref hshown, .ref hsighed])), (hpictures, eI G 6 (fun _ => 0)), (hshown, eI G 6 (fun _ => 0)), (hsighed, eI G 8 (fun _ => 0)), (qo, eI G 4 (fun _ => 0)), (qp, .inr (1, [.ref pkeys, .ref pwhos, .ref pfirsts, .ref pseconds, .int 0, .int 0])), (qx, .inr (9, [.ref qt, .ref qs, .ref qd, .ref qa, .ref qb, .ref qh, .ref qr, .ref qe, .ref qp, .ref qf, .ref qn, .ref qi, .ref qo, .int 0, .int 0, .int (-1), .int (-1)])), (qt, .inr (8, [.ref kc, .ref bys, .int 0, .int 400, .int 0, .int 0, .int 0, .int 0, .long 0, .int (-1), .int 0, .int 0]))] H _ := hw
  refine lv_iload_n C.1 C.2.1 dX10_book_43 rfl (lv_at hl 0 rfl) ?_
  refine lv_if_ne (tgt := 58) C.1 C.2.1 dX10_book_44 (by decide) (fun _ => ?_) (fun h9 => absurd h9 (by decide))
  refine lv_aload_n C.1 C.2.1 dX10_book_58 rfl (lv_at hl 1 rfl) ?_
  refine x_get C hw iwX10 9 rfl 16 rfl 4 (by decide) kw450 rfl dX10_book_59 ?_
  refine lv_aload_n C.1 C.2.1 dX10_book_62 rfl (lv_at hl 1 rfl) ?_
  refine x_get C hw iwX10 9 rfl 16 rfl 3 (by decide) kw449 rfl dX10_book_63 ?_
  refine x_callvV (As := [.ref qa]) (rest := []) (wr := [(qh, .inr (2, [.ref hk, .int 0, .int 0])), (hk, eSt G 8 hf), (hs, .inr (7, [.int 0, .int 0, .int 0, .int 0, .int 0, .int 0, .int 0, .int 0, .ref hpictures, .ref hshown, .ref hsighed])), (hpictures, eI G 6 (fun _ => 0)), (hshown, eI G 6 (fun _ => 0)), (hsighed, eI G 8 (fun _ => 0)), (qo, eI G 4 (fun _ => 0)), (qp, .inr (1, [.ref pkeys, .ref pwhos, .ref pfirsts, .ref pseconds, .int 0, .int 0])), (qx, .inr (9, [.ref qt, .ref qs, .ref qd, .ref qa, .ref qb, .ref qh, .ref qr, .ref qe, .ref qp, .ref qf, .ref qn, .ref qi, .ref qo, .int 0, .int 0, .int (-1), .int (-1)])), (qt, .inr (8, [.ref kc, .ref bys, .int 0, .int 400, .int 0, .int 0, .int 0, .int 0, .long 0, .int (-1), .int 0, .int 0]))]) C hw (c_X8_copyFrom qb qa 0 0 0 0 0 0 0 0 bpictures bshown bsighed (fun _ => 0) (fun _ => 0) (fun _ => 0) 0 0 0 0 0 0 0 0 apictures ashown asighed (fun _ => 0) (fun _ => 0) (fun _ => 0) isB0) mwX8_copyFrom kw690 [4, 5, 6, 7, 0, 1, 2, 3] [8, 9, 10, 11, 12, 13, 14, 15, 16, 17] rfl rfl rfl rfl (by decide) 0 rfl rfl rfl rfl hl.1 rfl (Nat.le_of_ble_eq_true rfl) ⟨(Nat.le_of_ble_eq_true rfl), (Nat.le_of_ble_eq_true rfl)⟩ ⟨(Nat.le_of_ble_eq_true rfl), (Nat.le_of_ble_eq_true rfl)⟩ dX10_book_66 (fun  u9 H locs hp9 hw => ?_)
  obtain rfl := hp9
  have hw : Wd G s A [(qh, .inr (2, [.ref hk, .int 0, .int 0])), (hk, eSt G 8 hf), (hs, .inr (7, [.int 0, .int 0, .int 0, .int 0, .int 0, .int 0, .int 0, .int 0, .ref hpictures, .ref hshown, .ref hsighed])), (hpictures, eI G 6 (fun _ => 0)), (hshown, eI G 6 (fun _ => 0)), (hsighed, eI G 8 (fun _ => 0)), (qo, eI G 4 (fun _ => 0)), (qp, .inr (1, [.ref pkeys, .ref pwhos, .ref pfirsts, .ref pseconds, .int 0, .int 0])), (qx, .inr (9, [.ref qt, .ref qs, .ref qd, .ref qa, .ref qb, .ref qh, .ref qr, .ref qe, .ref qp, .ref qf, .ref qn, .ref qi, .ref qo, .int 0, .int 0, .int (-1), .int (-1)])), (qt, .inr (8, [.ref kc, .ref bys, .int 0, .int 400, .int 0, .int 0, .int 0, .int 0, .long 0, .int (-1), .int 0, .int 0])), (qb, .inr (7, [.int 0, .int 0, .int 0, .int 0, .int 0, .int 0, .int 0, .int 0, .ref bpictures, .ref bshown, .ref bsighed])), (bpictures, eI G 6 (va_cpy (fun _ => 0) (fun _ => 0) 0 0 6)), (bshown, eI G 6 (va_cpy (fun _ => 0) (fun _ => 0) 0 0 6)), (bsighed, eI G 8 (va_cpy (fun _ => 0) (fun _ => 0) 0 0 8)), (qa, .inr (7, [.int 0, .int 0, .int 0, .int 0, .int 0, .int 0, .int 0, .int 0, .ref apictures, .ref ashown, .ref asighed])), (apictures, eI G 6 (fun _ => 0)), (ashown, eI G 6 (fun _ => 0)), (asighed, eI G 8 (fun _ => 0))] H _ := hw
  refine lv_iload_n C.1 C.2.1 dX10_book_69 rfl (lv_at hl 2 rfl) ?_
  refine lv_iconst (v := 1) C.1 C.2.1 dX10_book_70 (by decide) ?_
  refine lv_icmp_ne (tgt := 85) C.1 C.2.1 dX10_book_71 (by decide) (fun _ => ?_) (fun h9 => absurd h9 (by decide))
  refine lv_iload_n C.1 C.2.1 dX10_book_85 rfl (lv_at hl 2 rfl) ?_
  refine lv_iconst (v := 1) C.1 C.2.1 dX10_book_86 (by decide) ?_
  refine lv_icmp_ne (tgt := 97) C.1 C.2.1 dX10_book_87 (by decide) (fun _ => ?_) (fun h9 => absurd h9 (by decide))
  refine lv_aload_n C.1 C.2.1 dX10_book_97 rfl (lv_at hl 1 rfl) ?_
  refine x_get C hw iwX10 9 rfl 8 rfl 4 (by decide) kw450 rfl dX10_book_98 ?_
  refine lv_astore_n (lv' := [(3, .ref qb), (2, .int 1), (0, .ref qx), (1, .int 0)]) C.1 C.2.1 dX10_book_101 rfl hl (by decide) rfl (fun ls hl => ?_)
  refine lv_aload_n C.1 C.2.1 dX10_book_102 rfl (lv_at hl 2 rfl) ?_
  refine x_get C hw iwX10 9 rfl 8 rfl 8 (by decide) kw454 rfl dX10_book_103 ?_
  refine lv_aload_n C.1 C.2.1 dX10_book_106 rfl (lv_at hl 2 rfl) ?_
  refine x_get C hw iwX10 9 rfl 8 rfl 1 (by decide) kw447 rfl dX10_book_107 ?_
  refine lv_aload_n C.1 C.2.1 dX10_book_110 rfl (lv_at hl 0 rfl) ?_
  refine x_calliV (As := [.ref qs, .ref qb]) (rest := []) (wr := [(qh, .inr (2, [.ref hk, .int 0, .int 0])), (hk, eSt G 8 hf), (hs, .inr (7, [.int 0, .int 0, .int 0, .int 0, .int 0, .int 0, .int 0, .int 0, .ref hpictures, .ref hshown, .ref hsighed])), (hpictures, eI G 6 (fun _ => 0)), (hshown, eI G 6 (fun _ => 0)), (hsighed, eI G 8 (fun _ => 0)), (qo, eI G 4 (fun _ => 0)), (qx, .inr (9, [.ref qt, .ref qs, .ref qd, .ref qa, .ref qb, .ref qh, .ref qr, .ref qe, .ref qp, .ref qf, .ref qn, .ref qi, .ref qo, .int 0, .int 0, .int (-1), .int (-1)])), (qt, .inr (8, [.ref kc, .ref bys, .int 0, .int 400, .int 0, .int 0, .int 0, .int 0, .long 0, .int (-1), .int 0, .int 0])), (qb, .inr (7, [.int 0, .int 0, .int 0, .int 0, .int 0, .int 0, .int 0, .int 0, .ref bpictures, .ref bshown, .ref bsighed])), (bpictures, eI G 6 (va_cpy (fun _ => 0) (fun _ => 0) 0 0 6)), (bshown, eI G 6 (va_cpy (fun _ => 0) (fun _ => 0) 0 0 6)), (bsighed, eI G 8 (va_cpy (fun _ => 0) (fun _ => 0) 0 0 8)), (qa, .inr (7, [.int 0, .int 0, .int 0, .int 0, .int 0, .int 0, .int 0, .int 0, .ref apictures, .ref ashown, .ref asighed])), (apictures, eI G 6 (fun _ => 0)), (ashown, eI G 6 (fun _ => 0)), (asighed, eI G 8 (fun _ => 0))]) C hw (c_X1_liveIn qp qs qb pkeys pwhos pfirsts pseconds 0) mwX1_liveIn kw988 [7] [0, 1, 2, 3, 4, 5, 6, 8, 9, 10, 11, 12, 13, 14, 15, 16, 17] rfl rfl rfl rfl (by decide) 0 rfl rfl rfl rfl hl.1 rfl (Nat.le_of_ble_eq_true rfl) ⟨(Nat.le_of_ble_eq_true rfl), (Nat.le_of_ble_eq_true rfl)⟩ ⟨(Nat.le_of_ble_eq_true rfl), (Nat.le_of_ble_eq_true rfl)⟩ dX10_book_111 (fun r2 u9 H locs hp9 hw => ?_)
  obtain ⟨rfl, rfl⟩ := hp9
  have hw : Wd G s A [(qh, .inr (2, [.ref hk, .int 0, .int 0])), (hk, eSt G 8 hf), (hs, .inr (7, [.int 0, .int 0, .int 0, .int 0, .int 0, .int 0, .int 0, .int 0, .ref hpictures, .ref hshown, .ref hsighed])), (hpictures, eI G 6 (fun _ => 0)), (hshown, eI G 6 (fun _ => 0)), (hsighed, eI G 8 (fun _ => 0)), (qo, eI G 4 (fun _ => 0)), (qx, .inr (9, [.ref qt, .ref qs, .ref qd, .ref qa, .ref qb, .ref qh, .ref qr, .ref qe, .ref qp, .ref qf, .ref qn, .ref qi, .ref qo, .int 0, .int 0, .int (-1), .int (-1)])), (qt, .inr (8, [.ref kc, .ref bys, .int 0, .int 400, .int 0, .int 0, .int 0, .int 0, .long 0, .int (-1), .int 0, .int 0])), (qb, .inr (7, [.int 0, .int 0, .int 0, .int 0, .int 0, .int 0, .int 0, .int 0, .ref bpictures, .ref bshown, .ref bsighed])), (bpictures, eI G 6 (va_cpy (fun _ => 0) (fun _ => 0) 0 0 6)), (bshown, eI G 6 (va_cpy (fun _ => 0) (fun _ => 0) 0 0 6)), (bsighed, eI G 8 (va_cpy (fun _ => 0) (fun _ => 0) 0 0 8)), (qa, .inr (7, [.int 0, .int 0, .int 0, .int 0, .int 0, .int 0, .int 0, .int 0, .ref apictures, .ref ashown, .ref asighed])), (apictures, eI G 6 (fun _ => 0)), (ashown, eI G 6 (fun _ => 0)), (asighed, eI G 8 (fun _ => 0)), (qp, .inr (1, [.ref pkeys, .ref pwhos, .ref pfirsts, .ref pseconds, .int 0, .int 0]))] H _ := hw
  refine lv_istore (lv' := [(4, .int (-1)), (3, .ref qb), (2, .int 1), (0, .ref qx), (1, .int 0)]) C.1 C.2.1 dX10_book_114 hl (by decide) rfl (fun ls hl => ?_)
  refine lv_aload_n C.1 C.2.1 dX10_book_116 rfl (lv_at hl 3 rfl) ?_
  refine lv_iconst (v := 1) C.1 C.2.1 dX10_book_117 (by decide) ?_
  refine x_put (w' := [(qh, .inr (2, [.ref hk, .int 0, .int 0])), (hk, eSt G 8 hf), (hs, .inr (7, [.int 0, .int 0, .int 0, .int 0, .int 0, .int 0, .int 0, .int 0, .ref hpictures, .ref hshown, .ref hsighed])), (hpictures, eI G 6 (fun _ => 0)), (hshown, eI G 6 (fun _ => 0)), (hsighed, eI G 8 (fun _ => 0)), (qo, eI G 4 (fun _ => 0)), (qx, .inr (9, [.ref qt, .ref qs, .ref qd, .ref qa, .ref qb, .ref qh, .ref qr, .ref qe, .ref qp, .ref qf, .ref qn, .ref qi, .ref qo, .int 1, .int 0, .int (-1), .int (-1)])), (qt, .inr (8, [.ref kc, .ref bys, .int 0, .int 400, .int 0, .int 0, .int 0, .int 0, .long 0, .int (-1), .int 0, .int 0])), (qb, .inr (7, [.int 0, .int 0, .int 0, .int 0, .int 0, .int 0, .int 0, .int 0, .ref bpictures, .ref bshown, .ref bsighed])), (bpictures, eI G 6 (va_cpy (fun _ => 0) (fun _ => 0) 0 0 6)), (bshown, eI G 6 (va_cpy (fun _ => 0) (fun _ => 0) 0 0 6)), (bsighed, eI G 8 (va_cpy (fun _ => 0) (fun _ => 0) 0 0 8)), (qa, .inr (7, [.int 0, .int 0, .int 0, .int 0, .int 0, .int 0, .int 0, .int 0, .ref apictures, .ref ashown, .ref asighed])), (apictures, eI G 6 (fun _ => 0)), (ashown, eI G 6 (fun _ => 0)), (asighed, eI G 8 (fun _ => 0)), (qp, .inr (1, [.ref pkeys, .ref pwhos, .ref pfirsts, .ref pseconds, .int 0, .int 0]))]) C hw iwX10 tyX10_ok nmX10 9 rfl 7 rfl 13 (by decide) kw459 rfl (by first | rfl | decide) rfl (Nat.le_of_ble_eq_true rfl) rfl dX10_book_118 (fun H locs hw => ?_)
  refine lv_aload_n C.1 C.2.1 dX10_book_121 rfl (lv_at hl 3 rfl) ?_
  refine x_get C hw iwX10 9 rfl 7 rfl 12 (by decide) kw458 rfl dX10_book_122 ?_
  refine lv_iconst (v := 0) C.1 C.2.1 dX10_book_125 (by decide) ?_
  refine lv_aload_n C.1 C.2.1 dX10_book_126 rfl (lv_at hl 3 rfl) ?_
  refine x_get C hw iwX10 9 rfl 7 rfl 8 (by decide) kw454 rfl dX10_book_127 ?_
  refine x_get C hw iwX1 1 rfl 17 rfl 5 (by decide) kw357 rfl dX10_book_130 ?_
  refine x_iast (f' := (fun _ => 0)) (w' := [(qh, .inr (2, [.ref hk, .int 0, .int 0])), (hk, eSt G 8 hf), (hs, .inr (7, [.int 0, .int 0, .int 0, .int 0, .int 0, .int 0, .int 0, .int 0, .ref hpictures, .ref hshown, .ref hsighed])), (hpictures, eI G 6 (fun _ => 0)), (hshown, eI G 6 (fun _ => 0)), (hsighed, eI G 8 (fun _ => 0)), (qo, eI G 4 (fun _ => 0)), (qx, .inr (9, [.ref qt, .ref qs, .ref qd, .ref qa, .ref qb, .ref qh, .ref qr, .ref qe, .ref qp, .ref qf, .ref qn, .ref qi, .ref qo, .int 1, .int 0, .int (-1), .int (-1)])), (qt, .inr (8, [.ref kc, .ref bys, .int 0, .int 400, .int 0, .int 0, .int 0, .int 0, .long 0, .int (-1), .int 0, .int 0])), (qb, .inr (7, [.int 0, .int 0, .int 0, .int 0, .int 0, .int 0, .int 0, .int 0, .ref bpictures, .ref bshown, .ref bsighed])), (bpictures, eI G 6 (va_cpy (fun _ => 0) (fun _ => 0) 0 0 6)), (bshown, eI G 6 (va_cpy (fun _ => 0) (fun _ => 0) 0 0 6)), (bsighed, eI G 8 (va_cpy (fun _ => 0) (fun _ => 0) 0 0 8)), (qa, .inr (7, [.int 0, .int 0, .int 0, .int 0, .int 0, .int 0, .int 0, .int 0, .ref apictures, .ref ashown, .ref asighed])), (apictures, eI G 6 (fun _ => 0)), (ashown, eI G 6 (fun _ => 0)), (asighed, eI G 8 (fun _ => 0)), (qp, .inr (1, [.ref pkeys, .ref pwhos, .ref pfirsts, .ref pseconds, .int 0, .int 0]))]) C hw 6 rfl (x_in rfl) (x_updC 0 _) rfl dX10_book_133 (fun H locs hw => ?_)
  refine lv_aload_n C.1 C.2.1 dX10_book_134 rfl (lv_at hl 3 rfl) ?_
  refine x_get C hw iwX10 9 rfl 7 rfl 12 (by decide) kw458 rfl dX10_book_135 ?_
  refine lv_iconst (v := 1) C.1 C.2.1 dX10_book_138 (by decide) ?_
  refine lv_iload C.1 C.2.1 dX10_book_139 (lv_at hl 0 rfl) ?_
  refine lv_iconst (v := (-1)) C.1 C.2.1 dX10_book_141 (by decide) ?_
  refine lv_icmp_ne (tgt := 155) C.1 C.2.1 dX10_book_142 (by decide) (fun h9 => absurd (by decide) h9) (fun _ => ?_)
  refine lv_aload_n C.1 C.2.1 dX10_book_145 rfl (lv_at hl 3 rfl) ?_
  refine x_get C hw iwX10 9 rfl 7 rfl 8 (by decide) kw454 rfl dX10_book_146 ?_
  refine x_get C hw iwX1 1 rfl 17 rfl 4 (by decide) kw355 rfl dX10_book_149 ?_
  refine lv_goto (tgt := 157) C.1 C.2.1 dX10_book_152 (by decide) ?_
  refine x_iast (f' := (fun _ => 0)) (w' := [(qh, .inr (2, [.ref hk, .int 0, .int 0])), (hk, eSt G 8 hf), (hs, .inr (7, [.int 0, .int 0, .int 0, .int 0, .int 0, .int 0, .int 0, .int 0, .ref hpictures, .ref hshown, .ref hsighed])), (hpictures, eI G 6 (fun _ => 0)), (hshown, eI G 6 (fun _ => 0)), (hsighed, eI G 8 (fun _ => 0)), (qo, eI G 4 (fun _ => 0)), (qx, .inr (9, [.ref qt, .ref qs, .ref qd, .ref qa, .ref qb, .ref qh, .ref qr, .ref qe, .ref qp, .ref qf, .ref qn, .ref qi, .ref qo, .int 1, .int 0, .int (-1), .int (-1)])), (qt, .inr (8, [.ref kc, .ref bys, .int 0, .int 400, .int 0, .int 0, .int 0, .int 0, .long 0, .int (-1), .int 0, .int 0])), (qb, .inr (7, [.int 0, .int 0, .int 0, .int 0, .int 0, .int 0, .int 0, .int 0, .ref bpictures, .ref bshown, .ref bsighed])), (bpictures, eI G 6 (va_cpy (fun _ => 0) (fun _ => 0) 0 0 6)), (bshown, eI G 6 (va_cpy (fun _ => 0) (fun _ => 0) 0 0 6)), (bsighed, eI G 8 (va_cpy (fun _ => 0) (fun _ => 0) 0 0 8)), (qa, .inr (7, [.int 0, .int 0, .int 0, .int 0, .int 0, .int 0, .int 0, .int 0, .ref apictures, .ref ashown, .ref asighed])), (apictures, eI G 6 (fun _ => 0)), (ashown, eI G 6 (fun _ => 0)), (asighed, eI G 8 (fun _ => 0)), (qp, .inr (1, [.ref pkeys, .ref pwhos, .ref pfirsts, .ref pseconds, .int 0, .int 0]))]) C hw 6 rfl (x_in rfl) (x_updC 0 _) rfl dX10_book_157 (fun H locs hw => ?_)
  refine lv_aload_n C.1 C.2.1 dX10_book_158 rfl (lv_at hl 3 rfl) ?_
  refine x_get C hw iwX10 9 rfl 7 rfl 12 (by decide) kw458 rfl dX10_book_159 ?_
  refine lv_iconst (v := 2) C.1 C.2.1 dX10_book_162 (by decide) ?_
  refine lv_aload_n C.1 C.2.1 dX10_book_163 rfl (lv_at hl 1 rfl) ?_
  refine x_get C hw iwX8 7 rfl 9 rfl 0 (by decide) kw239 rfl dX10_book_164 ?_
  refine x_iast (f' := (fun _ => 0)) (w' := [(qh, .inr (2, [.ref hk, .int 0, .int 0])), (hk, eSt G 8 hf), (hs, .inr (7, [.int 0, .int 0, .int 0, .int 0, .int 0, .int 0, .int 0, .int 0, .ref hpictures, .ref hshown, .ref hsighed])), (hpictures, eI G 6 (fun _ => 0)), (hshown, eI G 6 (fun _ => 0)), (hsighed, eI G 8 (fun _ => 0)), (qo, eI G 4 (fun _ => 0)), (qx, .inr (9, [.ref qt, .ref qs, .ref qd, .ref qa, .ref qb, .ref qh, .ref qr, .ref qe, .ref qp, .ref qf, .ref qn, .ref qi, .ref qo, .int 1, .int 0, .int (-1), .int (-1)])), (qt, .inr (8, [.ref kc, .ref bys, .int 0, .int 400, .int 0, .int 0, .int 0, .int 0, .long 0, .int (-1), .int 0, .int 0])), (qb, .inr (7, [.int 0, .int 0, .int 0, .int 0, .int 0, .int 0, .int 0, .int 0, .ref bpictures, .ref bshown, .ref bsighed])), (bpictures, eI G 6 (va_cpy (fun _ => 0) (fun _ => 0) 0 0 6)), (bshown, eI G 6 (va_cpy (fun _ => 0) (fun _ => 0) 0 0 6)), (bsighed, eI G 8 (va_cpy (fun _ => 0) (fun _ => 0) 0 0 8)), (qa, .inr (7, [.int 0, .int 0, .int 0, .int 0, .int 0, .int 0, .int 0, .int 0, .ref apictures, .ref ashown, .ref asighed])), (apictures, eI G 6 (fun _ => 0)), (ashown, eI G 6 (fun _ => 0)), (asighed, eI G 8 (fun _ => 0)), (qp, .inr (1, [.ref pkeys, .ref pwhos, .ref pfirsts, .ref pseconds, .int 0, .int 0]))]) C hw 6 rfl (x_in rfl) (x_updC 0 _) rfl dX10_book_167 (fun H locs hw => ?_)
  refine lv_aload_n C.1 C.2.1 dX10_book_168 rfl (lv_at hl 3 rfl) ?_
  refine x_get C hw iwX10 9 rfl 7 rfl 12 (by decide) kw458 rfl dX10_book_169 ?_
  refine lv_iconst (v := 3) C.1 C.2.1 dX10_book_172 (by decide) ?_
  refine lv_aload_n C.1 C.2.1 dX10_book_173 rfl (lv_at hl 1 rfl) ?_
  refine x_get C hw iwX8 7 rfl 9 rfl 3 (by decide) kw249 rfl dX10_book_174 ?_
  refine x_iast (f' := (fun _ => 0)) (w' := [(qh, .inr (2, [.ref hk, .int 0, .int 0])), (hk, eSt G 8 hf), (hs, .inr (7, [.int 0, .int 0, .int 0, .int 0, .int 0, .int 0, .int 0, .int 0, .ref hpictures, .ref hshown, .ref hsighed])), (hpictures, eI G 6 (fun _ => 0)), (hshown, eI G 6 (fun _ => 0)), (hsighed, eI G 8 (fun _ => 0)), (qo, eI G 4 (fun _ => 0)), (qx, .inr (9, [.ref qt, .ref qs, .ref qd, .ref qa, .ref qb, .ref qh, .ref qr, .ref qe, .ref qp, .ref qf, .ref qn, .ref qi, .ref qo, .int 1, .int 0, .int (-1), .int (-1)])), (qt, .inr (8, [.ref kc, .ref bys, .int 0, .int 400, .int 0, .int 0, .int 0, .int 0, .long 0, .int (-1), .int 0, .int 0])), (qb, .inr (7, [.int 0, .int 0, .int 0, .int 0, .int 0, .int 0, .int 0, .int 0, .ref bpictures, .ref bshown, .ref bsighed])), (bpictures, eI G 6 (va_cpy (fun _ => 0) (fun _ => 0) 0 0 6)), (bshown, eI G 6 (va_cpy (fun _ => 0) (fun _ => 0) 0 0 6)), (bsighed, eI G 8 (va_cpy (fun _ => 0) (fun _ => 0) 0 0 8)), (qa, .inr (7, [.int 0, .int 0, .int 0, .int 0, .int 0, .int 0, .int 0, .int 0, .ref apictures, .ref ashown, .ref asighed])), (apictures, eI G 6 (fun _ => 0)), (ashown, eI G 6 (fun _ => 0)), (asighed, eI G 8 (fun _ => 0)), (qp, .inr (1, [.ref pkeys, .ref pwhos, .ref pfirsts, .ref pseconds, .int 0, .int 0]))]) C hw 6 rfl (x_in rfl) (x_updC 0 _) rfl dX10_book_177 (fun H locs hw => ?_)
  refine lv_iload C.1 C.2.1 dX10_book_178 (lv_at hl 0 rfl) ?_
  have hw := hw.sub (w' := []) [] rfl rfl
  exact x_reti B hw ⟨rfl, rfl⟩ (Nat.le_of_ble_eq_true rfl) (Nat.le_of_ble_eq_true rfl) dX10_book_180
theorem dX10_book_4 : decode cX10_book 4 = .ok (.iload_n 1, 1) := by decide +kernel
theorem dX10_book_5 : decode cX10_book 5 = .ok (.iconst 1, 1) := by decide +kernel
theorem dX10_book_6 : decode cX10_book 6 = .ok (.if_icmp .eq 7, 3) := by decide +kernel
theorem dX10_book_74 : decode cX10_book 74 = .ok (.aload_n 0, 1) := by decide +kernel
theorem dX10_book_75 : decode cX10_book 75 = .ok (.getfield 39, 3) := by decide +kernel
theorem dX10_book_78 : decode cX10_book 78 = .ok (.aload_n 0, 1) := by decide +kernel
theorem dX10_book_79 : decode cX10_book 79 = .ok (.getfield 33, 3) := by decide +kernel
theorem dX10_book_82 : decode cX10_book 82 = .ok (.invokevirtual 242, 3) := by decide +kernel
theorem dX10_book_90 : decode cX10_book 90 = .ok (.aload_n 0, 1) := by decide +kernel
theorem dX10_book_91 : decode cX10_book 91 = .ok (.getfield 29, 3) := by decide +kernel
theorem dX10_book_94 : decode cX10_book 94 = .ok (.goto 7, 3) := by decide +kernel
set_option maxHeartbeats 4000000 in
set_option maxRecDepth 100000 in
theorem c_X10_book__1 {l : Launch} {G : Gc} (qx : Nat) (qt : Nat) (qs : Nat) (qd : Nat) (qa : Nat) (qb : Nat) (qh : Nat) (qr : Nat) (qe : Nat) (qp : Nat) (qf : Nat) (qn : Nat) (qi : Nat) (qo : Nat) (kc : Nat) (bys : Nat) (pkeys : Nat) (pwhos : Nat) (pfirsts : Nat) (pseconds : Nat) (apictures : Nat) (ashown : Nat) (asighed : Nat) (bpictures : Nat) (bshown : Nat) (bsighed : Nat) (hk : Nat) (hf : Nat → Option Nat) (hs : Nat) (hpictures : Nat) (hshown : Nat) (hsighed : Nat) (f0 : hf 0 = some hs) : Ci l yX10_book cX10_book 5 (some .int) 3 0 0 G [.ref qx, .int 1] [(qx, .inr (9, [.ref qt, .ref qs, .ref qd, .ref qa, .ref qb, .ref qh, .ref qr, .ref qe, .ref qp, .ref qf, .ref qn, .ref qi, .ref qo, .int 0, .int 0, .int (-1), .int (-1)])), (qt, .inr (8, [.ref kc, .ref bys, .int 0, .int 0, .int 0, .int 0, .int 0, .int 0, .long 0, .int 0, .int 0, .int 0])), (qp, .inr (1, [.ref pkeys, .ref pwhos, .ref pfirsts, .ref pseconds, .int 0, .int 0])), (qa, .inr (7, [.int 0, .int 0, .int 0, .int 0, .int 0, .int 0, .int 0, .int 0, .ref apictures, .ref ashown, .ref asighed])), (apictures, eI G 6 (fun _ => 0)), (ashown, eI G 6 (fun _ => 0)), (asighed, eI G 8 (fun _ => 0)), (qb, .inr (7, [.int 0, .int 0, .int 0, .int 0, .int 0, .int 0, .int 0, .int 0, .ref bpictures, .ref bshown, .ref bsighed])), (bpictures, eI G 6 (fun _ => 0)), (bshown, eI G 6 (fun _ => 0)), (bsighed, eI G 8 (fun _ => 0)), (qh, .inr (2, [.ref hk, .int 0, .int 0])), (hk, eSt G 8 hf), (hs, .inr (7, [.int 0, .int 0, .int 0, .int 0, .int 0, .int 0, .int 0, .int 0, .ref hpictures, .ref hshown, .ref hsighed])), (hpictures, eI G 6 (fun _ => 0)), (hshown, eI G 6 (fun _ => 0)), (hsighed, eI G 8 (fun _ => 0)), (qo, eI G 4 (fun _ => 0))] (fun (r9 : Int32) (u9 : va_W) => r9 = (-1) ∧ u9 = []) := by
  refine Ci.of (by decide) (Nat.le_of_ble_eq_true rfl) ?_
  intro p e s m below meth c ls A B hw hl
  have C : CallFix p m c cX10_book 5 s _ gw "LanternState" := B.1
  have hl : lv_has ls 5 [(0, .ref qx), (1, .int 1)] := hl
  refine lv_iload_n C.1 C.2.1 dX10_book_0 rfl (lv_at hl 1 rfl) ?_
  refine lv_if_eq (tgt := 13) C.1 C.2.1 dX10_book_1 (by decide) (fun h9 => absurd h9 (by decide)) (fun _ => ?_)
  refine lv_iload_n C.1 C.2.1 dX10_book_4 rfl (lv_at hl 1 rfl) ?_
  refine lv_iconst (v := 1) C.1 C.2.1 dX10_book_5 (by decide) ?_
  refine lv_icmp_eq (tgt := 13) C.1 C.2.1 dX10_book_6 (by decide) (fun _ => ?_) (fun h9 => absurd (by decide) h9)
  refine lv_aload_n C.1 C.2.1 dX10_book_13 rfl (lv_at hl 0 rfl) ?_
  refine x_get C hw iwX10 9 rfl 0 rfl 0 (by decide) kw446 rfl dX10_book_14 ?_
  refine lv_sipush (v := 400) C.1 C.2.1 dX10_book_17 (by decide) ?_
  refine x_callvV (As := [.int 400]) (rest := []) (wr := [(qx, .inr (9, [.ref qt, .ref qs, .ref qd, .ref qa, .ref qb, .ref qh, .ref qr, .ref qe, .ref qp, .ref qf, .ref qn, .ref qi, .ref qo, .int 0, .int 0, .int (-1), .int (-1)])), (qp, .inr (1, [.ref pkeys, .ref pwhos, .ref pfirsts, .ref pseconds, .int 0, .int 0])), (qa, .inr (7, [.int 0, .int 0, .int 0, .int 0, .int 0, .int 0, .int 0, .int 0, .ref apictures, .ref ashown, .ref asighed])), (apictures, eI G 6 (fun _ => 0)), (ashown, eI G 6 (fun _ => 0)), (asighed, eI G 8 (fun _ => 0)), (qb, .inr (7, [.int 0, .int 0, .int 0, .int 0, .int 0, .int 0, .int 0, .int 0, .ref bpictures, .ref bshown, .ref bsighed])), (bpictures, eI G 6 (fun _ => 0)), (bshown, eI G 6 (fun _ => 0)), (bsighed, eI G 8 (fun _ => 0)), (qh, .inr (2, [.ref hk, .int 0, .int 0])), (hk, eSt G 8 hf), (hs, .inr (7, [.int 0, .int 0, .int 0, .int 0, .int 0, .int 0, .int 0, .int 0, .ref hpictures, .ref hshown, .ref hsighed])), (hpictures, eI G 6 (fun _ => 0)), (hshown, eI G 6 (fun _ => 0)), (hsighed, eI G 8 (fun _ => 0)), (qo, eI G 4 (fun _ => 0))]) C hw (c_X9_open qt 400 kc bys 0 0 0 0 0 0 0 0 0 0) mwX9_open kw514 [1] [0, 2, 3, 4, 5, 6, 7, 8, 9, 10, 11, 12, 13, 14, 15, 16, 17] rfl rfl rfl rfl (by decide) 0 rfl rfl rfl rfl hl.1 rfl (Nat.le_of_ble_eq_true rfl) ⟨(Nat.le_of_ble_eq_true rfl), (Nat.le_of_ble_eq_true rfl)⟩ ⟨(Nat.le_of_ble_eq_true rfl), (Nat.le_of_ble_eq_true rfl)⟩ dX10_book_20 (fun  u9 H locs hp9 hw => ?_)
  obtain rfl := hp9
  have hw : Wd G s A [(qx, .inr (9, [.ref qt, .ref qs, .ref qd, .ref qa, .ref qb, .ref qh, .ref qr, .ref qe, .ref qp, .ref qf, .ref qn, .ref qi, .ref qo, .int 0, .int 0, .int (-1), .int (-1)])), (qp, .inr (1, [.ref pkeys, .ref pwhos, .ref pfirsts, .ref pseconds, .int 0, .int 0])), (qa, .inr (7, [.int 0, .int 0, .int 0, .int 0, .int 0, .int 0, .int 0, .int 0, .ref apictures, .ref ashown, .ref asighed])), (apictures, eI G 6 (fun _ => 0)), (ashown, eI G 6 (fun _ => 0)), (asighed, eI G 8 (fun _ => 0)), (qb, .inr (7, [.int 0, .int 0, .int 0, .int 0, .int 0, .int 0, .int 0, .int 0, .ref bpictures, .ref bshown, .ref bsighed])), (bpictures, eI G 6 (fun _ => 0)), (bshown, eI G 6 (fun _ => 0)), (bsighed, eI G 8 (fun _ => 0)), (qh, .inr (2, [.ref hk, .int 0, .int 0])), (hk, eSt G 8 hf), (hs, .inr (7, [.int 0, .int 0, .int 0, .int 0, .int 0, .int 0, .int 0, .int 0, .ref hpictures, .ref hshown, .ref hsighed])), (hpictures, eI G 6 (fun _ => 0)), (hshown, eI G 6 (fun _ => 0)), (hsighed, eI G 8 (fun _ => 0)), (qo, eI G 4 (fun _ => 0)), (qt, .inr (8, [.ref kc, .ref bys, .int 0, .int 400, .int 0, .int 0, .int 0, .int 0, .long 0, .int 0, .int 0, .int 0]))] H _ := hw
  refine lv_aload_n C.1 C.2.1 dX10_book_23 rfl (lv_at hl 0 rfl) ?_
  refine x_get C hw iwX10 9 rfl 0 rfl 8 (by decide) kw454 rfl dX10_book_24 ?_
  refine lv_aload_n C.1 C.2.1 dX10_book_27 rfl (lv_at hl 0 rfl) ?_
  refine x_get C hw iwX10 9 rfl 0 rfl 0 (by decide) kw446 rfl dX10_book_28 ?_
  refine lv_aload_n C.1 C.2.1 dX10_book_31 rfl (lv_at hl 0 rfl) ?_
  refine x_get C hw iwX10 9 rfl 0 rfl 1 (by decide) kw447 rfl dX10_book_32 ?_
  refine x_calliV (As := [.ref qt, .ref qs]) (rest := []) (wr := [(qx, .inr (9, [.ref qt, .ref qs, .ref qd, .ref qa, .ref qb, .ref qh, .ref qr, .ref qe, .ref qp, .ref qf, .ref qn, .ref qi, .ref qo, .int 0, .int 0, .int (-1), .int (-1)])), (qa, .inr (7, [.int 0, .int 0, .int 0, .int 0, .int 0, .int 0, .int 0, .int 0, .ref apictures, .ref ashown, .ref asighed])), (apictures, eI G 6 (fun _ => 0)), (ashown, eI G 6 (fun _ => 0)), (asighed, eI G 8 (fun _ => 0)), (qb, .inr (7, [.int 0, .int 0, .int 0, .int 0, .int 0, .int 0, .int 0, .int 0, .ref bpictures, .ref bshown, .ref bsighed])), (bpictures, eI G 6 (fun _ => 0)), (bshown, eI G 6 (fun _ => 0)), (bsighed, eI G 8 (fun _ => 0)), (qh, .inr (2, [.ref hk, .int 0, .int 0])), (hk, eSt G 8 hf), (hs, .inr (7, [.int 0, .int 0, .int 0, .int 0, .int 0, .int 0, .int 0, .int 0, .ref hpictures, .ref hshown, .ref hsighed])), (hpictures, eI G 6 (fun _ => 0)), (hshown, eI G 6 (fun _ => 0)), (hsighed, eI G 8 (fun _ => 0)), (qo, eI G 4 (fun _ => 0))]) C hw (c_X1_read qp qt qs pkeys pwhos pfirsts pseconds 0 0 kc bys 400 0 0 0 0 0 0 0 (by decide)) mwX1_read kw956 [1, 17] [0, 2, 3, 4, 5, 6, 7, 8, 9, 10, 11, 12, 13, 14, 15, 16] rfl rfl rfl rfl (by decide) 0 rfl rfl rfl rfl hl.1 rfl (Nat.le_of_ble_eq_true rfl) ⟨(Nat.le_of_ble_eq_true rfl), (Nat.le_of_ble_eq_true rfl)⟩ ⟨(Nat.le_of_ble_eq_true rfl), (Nat.le_of_ble_eq_true rfl)⟩ dX10_book_35 (fun r1 u9 H locs hp9 hw => ?_)
  obtain ⟨rfl, rfl⟩ := hp9
  have hw : Wd G s A [(qx, .inr (9, [.ref qt, .ref qs, .ref qd, .ref qa, .ref qb, .ref qh, .ref qr, .ref qe, .ref qp, .ref qf, .ref qn, .ref qi, .ref qo, .int 0, .int 0, .int (-1), .int (-1)])), (qa, .inr (7, [.int 0, .int 0, .int 0, .int 0, .int 0, .int 0, .int 0, .int 0, .ref apictures, .ref ashown, .ref asighed])), (apictures, eI G 6 (fun _ => 0)), (ashown, eI G 6 (fun _ => 0)), (asighed, eI G 8 (fun _ => 0)), (qb, .inr (7, [.int 0, .int 0, .int 0, .int 0, .int 0, .int 0, .int 0, .int 0, .ref bpictures, .ref bshown, .ref bsighed])), (bpictures, eI G 6 (fun _ => 0)), (bshown, eI G 6 (fun _ => 0)), (bsighed, eI G 8 (fun _ => 0)), (qh, .inr (2, [.ref hk, .int 0, .int 0])), (hk, eSt G 8 hf), (hs, .inr (7, [.int 0, .int 0, .int 0, .int 0, .int 0, .int 0, .int 0, .int 0, .ref hpictures, .ref hshown, .ref hsighed])), (hpictures, eI G 6 (fun _ => 0)), (hshown, eI G 6 (fun _ => 0)), (hsighed, eI G 8 (fun _ => 0)), (qo, eI G 4 (fun _ => 0)), (qp, .inr (1, [.ref pkeys, .ref pwhos, .ref pfirsts, .ref pseconds, .int 0, .int 0])), (qt, .inr (8, [.ref kc, .ref bys, .int 0, .int 400, .int 0, .int 0, .int 0, .int 0, .long 0, .int (-1), .int 0, .int 0]))] H _ := hw
  refine lv_istore_n (lv' := [(2, .int 1), (0, .ref qx), (1, .int 1)]) C.1 C.2.1 dX10_book_38 rfl hl (by decide) rfl (fun ls hl => ?_)
  refine lv_aload_n C.1 C.2.1 dX10_book_39 rfl (lv_at hl 1 rfl) ?_
  refine x_callvV (As := []) (rest := []) (wr := [(qa, .inr (7, [.int 0, .int 0, .int 0, .int 0, .int 0, .int 0, .int 0, .int 0, .ref apictures, .ref ashown, .ref asighed])), (apictures, eI G 6 (fun _ => 0)), (ashown, eI G 6 (fun _ => 0)), (asighed, eI G 8 (fun _ => 0)), (qb, .inr (7, [.int 0, .int 0, .int 0, .int 0, .int 0, .int 0, .int 0, .int 0, .ref bpictures, .ref bshown, .ref bsighed])), (bpictures, eI G 6 (fun _ => 0)), (bshown, eI G 6 (fun _ => 0)), (bsighed, eI G 8 (fun _ => 0)), (qh, .inr (2, [.ref hk, .int 0, .int 0])), (hk, eSt G 8 hf), (hs, .inr (7, [.int 0, .int 0, .int 0, .int 0, .int 0, .int 0, .int 0, .int 0, .ref hpictures, .ref hshown, .ref hsighed])), (hpictures, eI G 6 (fun _ => 0)), (hshown, eI G 6 (fun _ => 0)), (hsighed, eI G 8 (fun _ => 0)), (qo, eI G 4 (fun _ => 0)), (qp, .inr (1, [.ref pkeys, .ref pwhos, .ref pfirsts, .ref pseconds, .int 0, .int 0]))]) C hw (c_X10_closeText qx qt qs qd qa qb qh qr qe qp qf qn qi qo 0 kc bys 0 400 0 0 0 0 0 (-1) 0 0) mwX10_closeText kw622 [0, 17] [1, 2, 3, 4, 5, 6, 7, 8, 9, 10, 11, 12, 13, 14, 15, 16] rfl rfl rfl rfl (by decide) 0 rfl rfl rfl rfl hl.1 rfl (Nat.le_of_ble_eq_true rfl) ⟨(Nat.le_of_ble_eq_true rfl), (Nat.le_of_ble_eq_true rfl)⟩ ⟨(Nat.le_of_ble_eq_true rfl), (Nat.le_of_ble_eq_true rfl)⟩ dX10_book_40 (fun  u9 H locs hp9 hw => ?_)
  obtain rfl := hp9
  have hw : Wd G s A [(qa, .inr (7, [.int 0, .int 0, .int 0, .int 0, .int 0, .int 0, .int 0, .int 0, .ref apictures, .ref ashown, .ref asighed])), (apictures, eI G 6 (fun _ => 0)), (ashown, eI G 6 (fun _ => 0)), (asighed, eI G 8 (fun _ => 0)), (qb, .inr (7, [.int 0, .int 0, .int 0, .int 0, .int 0, .int 0, .int 0, .int 0, .ref bpictures, .ref bshown, .ref bsighed])), (bpictures, eI G 6 (fun _ => 0)), (bshown, eI G 6 (fun _ => 0)), (bsighed, eI G 8 (fun _ => 0)), (qh, .inr (2, [.ref hk, .int 0, .int 0])), (hk, eSt G 8 hf), (hs, .inr (7, [.int 0, .int 0, .int 0, .int 0, .int 0, .int 0, .int 0, .int 0, .ref hpictures, .ref hshown, .ref hsighed])), (hpictures, eI G 6 (fun _ => 0)), (hshown, eI G 6 (fun _ => 0)), (hsighed, eI G 8 (fun _ => 0)), (qo, eI G 4 (fun _ => 0)), (qp, .inr (1, [.ref pkeys, .ref pwhos, .ref pfirsts, .ref pseconds, .int 0, .int 0])), (qx, .inr (9, [.ref qt, .ref qs, .ref qd, .ref qa, .ref qb, .ref qh, .ref qr, .ref qe, .ref qp, .ref qf, .ref qn, .ref qi, .ref qo, .int 0, .int 0, .int (-1), .int (-1)])), (qt, .inr (8, [.ref kc, .ref bys, .int 0, .int 400, .int 0, .int 0, .int 0, .int 0, .long 0, .int (-1), .int 0, .int 0]))] H _ := hw
  refine lv_iload_n C.1 C.2.1 dX10_book_43 rfl (lv_at hl 0 rfl) ?_
  refine lv_if_ne (tgt := 58) C.1 C.2.1 dX10_book_44 (by decide) (fun _ => ?_) (fun h9 => absurd h9 (by decide))
  refine lv_aload_n C.1 C.2.1 dX10_book_58 rfl (lv_at hl 1 rfl) ?_
  refine x_get C hw iwX10 9 rfl 16 rfl 4 (by decide) kw450 rfl dX10_book_59 ?_
  refine lv_aload_n C.1 C.2.1 dX10_book_62 rfl (lv_at hl 1 rfl) ?_
  refine x_get C hw iwX10 9 rfl 16 rfl 3 (by decide) kw449 rfl dX10_book_63 ?_
  refine x_callvV (As := [.ref qa]) (rest := []) (wr := [(qh, .inr (2, [.ref hk, .int 0, .int 0])), (hk, eSt G 8 hf), (hs, .inr (7, [.int 0, .int 0, .int 0, .int 0, .int 0, .int 0, .int 0, .int 0, .ref hpictures, .ref hshown, .ref hsighed])), (hpictures, eI G 6 (fun _ => 0)), (hshown, eI G 6 (fun _ => 0)), (hsighed, eI G 8 (fun _ => 0)), (qo, eI G 4 (fun _ => 0)), (qp, .inr (1, [.ref pkeys, .ref pwhos, .ref pfirsts, .ref pseconds, .int 0, .int 0])), (qx, .inr (9, [.ref qt, .ref qs, .ref qd, .ref qa, .ref qb, .ref qh, .ref qr, .ref qe, .ref qp, .ref qf, .ref qn, .ref qi, .ref qo, .int 0, .int 0, .int (-1), .int (-1)])), (qt, .inr (8, [.ref kc, .ref bys, .int 0, .int 400, .int 0, .int 0, .int 0, .int 0, .long 0, .int (-1), .int 0, .int 0]))]) C hw (c_X8_copyFrom qb qa 0 0 0 0 0 0 0 0 bpictures bshown bsighed (fun _ => 0) (fun _ => 0) (fun _ => 0) 0 0 0 0 0 0 0 0 apictures ashown asighed (fun _ => 0) (fun _ => 0) (fun _ => 0) isB0) mwX8_copyFrom kw690 [4, 5, 6, 7, 0, 1, 2, 3] [8, 9, 10, 11, 12, 13, 14, 15, 16, 17] rfl rfl rfl rfl (by decide) 0 rfl rfl rfl rfl hl.1 rfl (Nat.le_of_ble_eq_true rfl) ⟨(Nat.le_of_ble_eq_true rfl), (Nat.le_of_ble_eq_true rfl)⟩ ⟨(Nat.le_of_ble_eq_true rfl), (Nat.le_of_ble_eq_true rfl)⟩ dX10_book_66 (fun  u9 H locs hp9 hw => ?_)
  obtain rfl := hp9
  have hw : Wd G s A [(qh, .inr (2, [.ref hk, .int 0, .int 0])), (hk, eSt G 8 hf), (hs, .inr (7, [.int 0, .int 0, .int 0, .int 0, .int 0, .int 0, .int 0, .int 0, .ref hpictures, .ref hshown, .ref hsighed])), (hpictures, eI G 6 (fun _ => 0)), (hshown, eI G 6 (fun _ => 0)), (hsighed, eI G 8 (fun _ => 0)), (qo, eI G 4 (fun _ => 0)), (qp, .inr (1, [.ref pkeys, .ref pwhos, .ref pfirsts, .ref pseconds, .int 0, .int 0])), (qx, .inr (9, [.ref qt, .ref qs, .ref qd, .ref qa, .ref qb, .ref qh, .ref qr, .ref qe, .ref qp, .ref qf, .ref qn, .ref qi, .ref qo, .int 0, .int 0, .int (-1), .int (-1)])), (qt, .inr (8, [.ref kc, .ref bys, .int 0, .int 400, .int 0, .int 0, .int 0, .int 0, .long 0, .int (-1), .int 0, .int 0])), (qb, .inr (7, [.int 0, .int 0, .int 0, .int 0, .int 0, .int 0, .int 0, .int 0, .ref bpictures, .ref bshown, .ref bsighed])), (bpictures, eI G 6 (va_cpy (fun _ => 0) (fun _ => 0) 0 0 6)), (bshown, eI G 6 (va_cpy (fun _ => 0) (fun _ => 0) 0 0 6)), (bsighed, eI G 8 (va_cpy (fun _ => 0) (fun _ => 0) 0 0 8)), (qa, .inr (7, [.int 0, .int 0, .int 0, .int 0, .int 0, .int 0, .int 0, .int 0, .ref apictures, .ref ashown, .ref asighed])), (apictures, eI G 6 (fun _ => 0)), (ashown, eI G 6 (fun _ => 0)), (asighed, eI G 8 (fun _ => 0))] H _ := hw
  refine lv_iload_n C.1 C.2.1 dX10_book_69 rfl (lv_at hl 2 rfl) ?_
  refine lv_iconst (v := 1) C.1 C.2.1 dX10_book_70 (by decide) ?_
  refine lv_icmp_ne (tgt := 85) C.1 C.2.1 dX10_book_71 (by decide) (fun h9 => absurd (by decide) h9) (fun _ => ?_)
  refine lv_aload_n C.1 C.2.1 dX10_book_74 rfl (lv_at hl 1 rfl) ?_
  refine x_get C hw iwX10 9 rfl 8 rfl 5 (by decide) kw451 rfl dX10_book_75 ?_
  refine lv_aload_n C.1 C.2.1 dX10_book_78 rfl (lv_at hl 1 rfl) ?_
  refine x_get C hw iwX10 9 rfl 8 rfl 4 (by decide) kw450 rfl dX10_book_79 ?_
  refine x_callvV (As := [.ref qb]) (rest := []) (wr := [(qo, eI G 4 (fun _ => 0)), (qp, .inr (1, [.ref pkeys, .ref pwhos, .ref pfirsts, .ref pseconds, .int 0, .int 0])), (qx, .inr (9, [.ref qt, .ref qs, .ref qd, .ref qa, .ref qb, .ref qh, .ref qr, .ref qe, .ref qp, .ref qf, .ref qn, .ref qi, .ref qo, .int 0, .int 0, .int (-1), .int (-1)])), (qt, .inr (8, [.ref kc, .ref bys, .int 0, .int 400, .int 0, .int 0, .int 0, .int 0, .long 0, .int (-1), .int 0, .int 0])), (qa, .inr (7, [.int 0, .int 0, .int 0, .int 0, .int 0, .int 0, .int 0, .int 0, .ref apictures, .ref ashown, .ref asighed])), (apictures, eI G 6 (fun _ => 0)), (ashown, eI G 6 (fun _ => 0)), (asighed, eI G 8 (fun _ => 0))]) C hw (c_X2_keep qh qb hk hf hs 0 0 0 0 0 0 0 0 hpictures hshown hsighed (fun _ => 0) (fun _ => 0) (fun _ => 0) 0 0 0 0 0 0 0 0 bpictures bshown bsighed (va_cpy (fun _ => 0) (fun _ => 0) 0 0 6) (va_cpy (fun _ => 0) (fun _ => 0) 0 0 6) (va_cpy (fun _ => 0) (fun _ => 0) 0 0 8) f0 isB0) mwX2_keep kw740 [0, 1, 2, 3, 4, 5, 10, 11, 12, 13] [6, 7, 8, 9, 14, 15, 16, 17] rfl rfl rfl rfl (by decide) 0 rfl rfl rfl rfl hl.1 rfl (Nat.le_of_ble_eq_true rfl) ⟨(Nat.le_of_ble_eq_true rfl), (Nat.le_of_ble_eq_true rfl)⟩ ⟨(Nat.le_of_ble_eq_true rfl), (Nat.le_of_ble_eq_true rfl)⟩ dX10_book_82 (fun  u9 H locs hp9 hw => ?_)
  obtain rfl := hp9
  have hw : Wd G s A [(qo, eI G 4 (fun _ => 0)), (qp, .inr (1, [.ref pkeys, .ref pwhos, .ref pfirsts, .ref pseconds, .int 0, .int 0])), (qx, .inr (9, [.ref qt, .ref qs, .ref qd, .ref qa, .ref qb, .ref qh, .ref qr, .ref qe, .ref qp, .ref qf, .ref qn, .ref qi, .ref qo, .int 0, .int 0, .int (-1), .int (-1)])), (qt, .inr (8, [.ref kc, .ref bys, .int 0, .int 400, .int 0, .int 0, .int 0, .int 0, .long 0, .int (-1), .int 0, .int 0])), (qa, .inr (7, [.int 0, .int 0, .int 0, .int 0, .int 0, .int 0, .int 0, .int 0, .ref apictures, .ref ashown, .ref asighed])), (apictures, eI G 6 (fun _ => 0)), (ashown, eI G 6 (fun _ => 0)), (asighed, eI G 8 (fun _ => 0))] H _ := hw
  refine lv_iload_n C.1 C.2.1 dX10_book_85 rfl (lv_at hl 2 rfl) ?_
  refine lv_iconst (v := 1) C.1 C.2.1 dX10_book_86 (by decide) ?_
  refine lv_icmp_ne (tgt := 97) C.1 C.2.1 dX10_book_87 (by decide) (fun h9 => absurd (by decide) h9) (fun _ => ?_)
  refine lv_aload_n C.1 C.2.1 dX10_book_90 rfl (lv_at hl 1 rfl) ?_
  refine x_get C hw iwX10 9 rfl 2 rfl 3 (by decide) kw449 rfl dX10_book_91 ?_
  refine lv_goto (tgt := 101) C.1 C.2.1 dX10_book_94 (by decide) ?_
  refine lv_astore_n (lv' := [(3, .ref qa), (2, .int 1), (0, .ref qx), (1, .int 1)]) C.1 C.2.1 dX10_book_101 rfl hl (by decide) rfl (fun ls hl => ?_)
  refine lv_aload_n C.1 C.2.1 dX10_book_102 rfl (lv_at hl 2 rfl) ?_
  refine x_get C hw iwX10 9 rfl 2 rfl 8 (by decide) kw454 rfl dX10_book_103 ?_
  refine lv_aload_n C.1 C.2.1 dX10_book_106 rfl (lv_at hl 2 rfl) ?_
  refine x_get C hw iwX10 9 rfl 2 rfl 1 (by decide) kw447 rfl dX10_book_107 ?_
  refine lv_aload_n C.1 C.2.1 dX10_book_110 rfl (lv_at hl 0 rfl) ?_
  refine x_calliV (As := [.ref qs, .ref qa]) (rest := []) (wr := [(qo, eI G 4 (fun _ => 0)), (qx, .inr (9, [.ref qt, .ref qs, .ref qd, .ref qa, .ref qb, .ref qh, .ref qr, .ref qe, .ref qp, .ref qf, .ref qn, .ref qi, .ref qo, .int 0, .int 0, .int (-1), .int (-1)])), (qt, .inr (8, [.ref kc, .ref bys, .int 0, .int 400, .int 0, .int 0, .int 0, .int 0, .long 0, .int (-1), .int 0, .int 0])), (qa, .inr (7, [.int 0, .int 0, .int 0, .int 0, .int 0, .int 0, .int 0, .int 0, .ref apictures, .ref ashown, .ref asighed])), (apictures, eI G 6 (fun _ => 0)), (ashown, eI G 6 (fun _ => 0)), (asighed, eI G 8 (fun _ => 0))]) C hw (c_X1_liveIn qp qs qa pkeys pwhos pfirsts pseconds 0) mwX1_liveIn kw988 [1] [0, 2, 3, 4, 5, 6, 7] rfl rfl rfl rfl (by decide) 0 rfl rfl rfl rfl hl.1 rfl (Nat.le_of_ble_eq_true rfl) ⟨(Nat.le_of_ble_eq_true rfl), (Nat.le_of_ble_eq_true rfl)⟩ ⟨(Nat.le_of_ble_eq_true rfl), (Nat.le_of_ble_eq_true rfl)⟩ dX10_book_111 (fun r2 u9 H locs hp9 hw => ?_)
  obtain ⟨rfl, rfl⟩ := hp9
  have hw : Wd G s A [(qo, eI G 4 (fun _ => 0)), (qx, .inr (9, [.ref qt, .ref qs, .ref qd, .ref qa, .ref qb, .ref qh, .ref qr, .ref qe, .ref qp, .ref qf, .ref qn, .ref qi, .ref qo, .int 0, .int 0, .int (-1), .int (-1)])), (qt, .inr (8, [.ref kc, .ref bys, .int 0, .int 400, .int 0, .int 0, .int 0, .int 0, .long 0, .int (-1), .int 0, .int 0])), (qa, .inr (7, [.int 0, .int 0, .int 0, .int 0, .int 0, .int 0, .int 0, .int 0, .ref apictures, .ref ashown, .ref asighed])), (apictures, eI G 6 (fun _ => 0)), (ashown, eI G 6 (fun _ => 0)), (asighed, eI G 8 (fun _ => 0)), (qp, .inr (1, [.ref pkeys, .ref pwhos, .ref pfirsts, .ref pseconds, .int 0, .int 0]))] H _ := hw
  refine lv_istore (lv' := [(4, .int (-1)), (3, .ref qa), (2, .int 1), (0, .ref qx), (1, .int 1)]) C.1 C.2.1 dX10_book_114 hl (by decide) rfl (fun ls hl => ?_)
  refine lv_aload_n C.1 C.2.1 dX10_book_116 rfl (lv_at hl 3 rfl) ?_
  refine lv_iconst (v := 1) C.1 C.2.1 dX10_book_117 (by decide) ?_
  refine x_put (w' := [(qo, eI G 4 (fun _ => 0)), (qx, .inr (9, [.ref qt, .ref qs, .ref qd, .ref qa, .ref qb, .ref qh, .ref qr, .ref qe, .ref qp, .ref qf, .ref qn, .ref qi, .ref qo, .int 1, .int 0, .int (-1), .int (-1)])), (qt, .inr (8, [.ref kc, .ref bys, .int 0, .int 400, .int 0, .int 0, .int 0, .int 0, .long 0, .int (-1), .int 0, .int 0])), (qa, .inr (7, [.int 0, .int 0, .int 0, .int 0, .int 0, .int 0, .int 0, .int 0, .ref apictures, .ref ashown, .ref asighed])), (apictures, eI G 6 (fun _ => 0)), (ashown, eI G 6 (fun _ => 0)), (asighed, eI G 8 (fun _ => 0)), (qp, .inr (1, [.ref pkeys, .ref pwhos, .ref pfirsts, .ref pseconds, .int 0, .int 0]))]) C hw iwX10 tyX10_ok nmX10 9 rfl 1 rfl 13 (by decide) kw459 rfl (by first | rfl | decide) rfl (Nat.le_of_ble_eq_true rfl) rfl dX10_book_118 (fun H locs hw => ?_)
  refine lv_aload_n C.1 C.2.1 dX10_book_121 rfl (lv_at hl 3 rfl) ?_
  refine x_get C hw iwX10 9 rfl 1 rfl 12 (by decide) kw458 rfl dX10_book_122 ?_
  refine lv_iconst (v := 0) C.1 C.2.1 dX10_book_125 (by decide) ?_
  refine lv_aload_n C.1 C.2.1 dX10_book_126 rfl (lv_at hl 3 rfl) ?_
  refine x_get C hw iwX10 9 rfl 1 rfl 8 (by decide) kw454 rfl dX10_book_127 ?_
  refine x_get C hw iwX1 1 rfl 7 rfl 5 (by decide) kw357 rfl dX10_book_130 ?_
  refine x_iast (f' := (fun _ => 0)) (w' := [(qo, eI G 4 (fun _ => 0)), (qx, .inr (9, [.ref qt, .ref qs, .ref qd, .ref qa, .ref qb, .ref qh, .ref qr, .ref qe, .ref qp, .ref qf, .ref qn, .ref qi, .ref qo, .int 1, .int 0, .int (-1), .int (-1)])), (qt, .inr (8, [.ref kc, .ref bys, .int 0, .int 400, .int 0, .int 0, .int 0, .int 0, .long 0, .int (-1), .int 0, .int 0])), (qa, .inr (7, [.int 0, .int 0, .int 0, .int 0, .int 0, .int 0, .int 0, .int 0, .ref apictures, .ref ashown, .ref asighed])), (apictures, eI G 6 (fun _ => 0)), (ashown, eI G 6 (fun _ => 0)), (asighed, eI G 8 (fun _ => 0)), (qp, .inr (1, [.ref pkeys, .ref pwhos, .ref pfirsts, .ref pseconds, .int 0, .int 0]))]) C hw 0 rfl (x_in rfl) (x_updC 0 _) rfl dX10_book_133 (fun H locs hw => ?_)
  refine lv_aload_n C.1 C.2.1 dX10_book_134 rfl (lv_at hl 3 rfl) ?_
  refine x_get C hw iwX10 9 rfl 1 rfl 12 (by decide) kw458 rfl dX10_book_135 ?_
  refine lv_iconst (v := 1) C.1 C.2.1 dX10_book_138 (by decide) ?_
  refine lv_iload C.1 C.2.1 dX10_book_139 (lv_at hl 0 rfl) ?_
  refine lv_iconst (v := (-1)) C.1 C.2.1 dX10_book_141 (by decide) ?_
  refine lv_icmp_ne (tgt := 155) C.1 C.2.1 dX10_book_142 (by decide) (fun h9 => absurd (by decide) h9) (fun _ => ?_)
  refine lv_aload_n C.1 C.2.1 dX10_book_145 rfl (lv_at hl 3 rfl) ?_
  refine x_get C hw iwX10 9 rfl 1 rfl 8 (by decide) kw454 rfl dX10_book_146 ?_
  refine x_get C hw iwX1 1 rfl 7 rfl 4 (by decide) kw355 rfl dX10_book_149 ?_
  refine lv_goto (tgt := 157) C.1 C.2.1 dX10_book_152 (by decide) ?_
  refine x_iast (f' := (fun _ => 0)) (w' := [(qo, eI G 4 (fun _ => 0)), (qx, .inr (9, [.ref qt, .ref qs, .ref qd, .ref qa, .ref qb, .ref qh, .ref qr, .ref qe, .ref qp, .ref qf, .ref qn, .ref qi, .ref qo, .int 1, .int 0, .int (-1), .int (-1)])), (qt, .inr (8, [.ref kc, .ref bys, .int 0, .int 400, .int 0, .int 0, .int 0, .int 0, .long 0, .int (-1), .int 0, .int 0])), (qa, .inr (7, [.int 0, .int 0, .int 0, .int 0, .int 0, .int 0, .int 0, .int 0, .ref apictures, .ref ashown, .ref asighed])), (apictures, eI G 6 (fun _ => 0)), (ashown, eI G 6 (fun _ => 0)), (asighed, eI G 8 (fun _ => 0)), (qp, .inr (1, [.ref pkeys, .ref pwhos, .ref pfirsts, .ref pseconds, .int 0, .int 0]))]) C hw 0 rfl (x_in rfl) (x_updC 0 _) rfl dX10_book_157 (fun H locs hw => ?_)
  refine lv_aload_n C.1 C.2.1 dX10_book_158 rfl (lv_at hl 3 rfl) ?_
  refine x_get C hw iwX10 9 rfl 1 rfl 12 (by decide) kw458 rfl dX10_book_159 ?_
  refine lv_iconst (v := 2) C.1 C.2.1 dX10_book_162 (by decide) ?_
  refine lv_aload_n C.1 C.2.1 dX10_book_163 rfl (lv_at hl 1 rfl) ?_
  refine x_get C hw iwX8 7 rfl 3 rfl 0 (by decide) kw239 rfl dX10_book_164 ?_
  refine x_iast (f' := (fun _ => 0)) (w' := [(qo, eI G 4 (fun _ => 0)), (qx, .inr (9, [.ref qt, .ref qs, .ref qd, .ref qa, .ref qb, .ref qh, .ref qr, .ref qe, .ref qp, .ref qf, .ref qn, .ref qi, .ref qo, .int 1, .int 0, .int (-1), .int (-1)])), (qt, .inr (8, [.ref kc, .ref bys, .int 0, .int 400, .int 0, .int 0, .int 0, .int 0, .long 0, .int (-1), .int 0, .int 0])), (qa, .inr (7, [.int 0, .int 0, .int 0, .int 0, .int 0, .int 0, .int 0, .int 0, .ref apictures, .ref ashown, .ref asighed])), (apictures, eI G 6 (fun _ => 0)), (ashown, eI G 6 (fun _ => 0)), (asighed, eI G 8 (fun _ => 0)), (qp, .inr (1, [.ref pkeys, .ref pwhos, .ref pfirsts, .ref pseconds, .int 0, .int 0]))]) C hw 0 rfl (x_in rfl) (x_updC 0 _) rfl dX10_book_167 (fun H locs hw => ?_)
  refine lv_aload_n C.1 C.2.1 dX10_book_168 rfl (lv_at hl 3 rfl) ?_
  refine x_get C hw iwX10 9 rfl 1 rfl 12 (by decide) kw458 rfl dX10_book_169 ?_
  refine lv_iconst (v := 3) C.1 C.2.1 dX10_book_172 (by decide) ?_
  refine lv_aload_n C.1 C.2.1 dX10_book_173 rfl (lv_at hl 1 rfl) ?_
  refine x_get C hw iwX8 7 rfl 3 rfl 3 (by decide) kw249 rfl dX10_book_174 ?_
  refine x_iast (f' := (fun _ => 0)) (w' := [(qo, eI G 4 (fun _ => 0)), (qx, .inr (9, [.ref qt, .ref qs, .ref qd, .ref qa, .ref qb, .ref qh, .ref qr, .ref qe, .ref qp, .ref qf, .ref qn, .ref qi, .ref qo, .int 1, .int 0, .int (-1), .int (-1)])), (qt, .inr (8, [.ref kc, .ref bys, .int 0, .int 400, .int 0, .int 0, .int 0, .int 0, .long 0, .int (-1), .int 0, .int 0])), (qa, .inr (7, [.int 0, .int 0, .int 0, .int 0, .int 0, .int 0, .int 0, .int 0, .ref apictures, .ref ashown, .ref asighed])), (apictures, eI G 6 (fun _ => 0)), (ashown, eI G 6 (fun _ => 0)), (asighed, eI G 8 (fun _ => 0)), (qp, .inr (1, [.ref pkeys, .ref pwhos, .ref pfirsts, .ref pseconds, .int 0, .int 0]))]) C hw 0 rfl (x_in rfl) (x_updC 0 _) rfl dX10_book_177 (fun H locs hw => ?_)
  refine lv_iload C.1 C.2.1 dX10_book_178 (lv_at hl 0 rfl) ?_
  have hw := hw.sub (w' := []) [] rfl rfl
  exact x_reti B hw ⟨rfl, rfl⟩ (Nat.le_of_ble_eq_true rfl) (Nat.le_of_ble_eq_true rfl) dX10_book_180
theorem dX10_book_9 : decode cX10_book 9 = .ok (.sipush (-1000), 3) := by decide +kernel
theorem dX10_book_12 : decode cX10_book 12 = .ok (.ireturn, 1) := by decide +kernel
set_option maxHeartbeats 4000000 in
set_option maxRecDepth 100000 in
theorem c_X10_book__N {l : Launch} {G : Gc} (qx : Nat) (a1 : Int32) (qt : Nat) (qs : Nat) (qd : Nat) (qa : Nat) (qb : Nat) (qh : Nat) (qr : Nat) (qe : Nat) (qp : Nat) (qf : Nat) (qn : Nat) (qi : Nat) (qo : Nat) (h0 : ¬ a1 = 0) (h1 : ¬ a1 = 1) : Ci l yX10_book cX10_book 5 (some .int) 0 0 0 G [.ref qx, .int a1] [(qx, .inr (9, [.ref qt, .ref qs, .ref qd, .ref qa, .ref qb, .ref qh, .ref qr, .ref qe, .ref qp, .ref qf, .ref qn, .ref qi, .ref qo, .int 0, .int 0, .int (-1), .int (-1)]))] (fun (r9 : Int32) (u9 : va_W) => r9 = (-1000) ∧ u9 = []) := by
  refine Ci.of (by decide) (Nat.le_of_ble_eq_true rfl) ?_
  intro p e s m below meth c ls A B hw hl
  have C : CallFix p m c cX10_book 5 s _ gw "LanternState" := B.1
  have hl : lv_has ls 5 [(0, .ref qx), (1, .int a1)] := hl
  refine lv_iload_n C.1 C.2.1 dX10_book_0 rfl (lv_at hl 1 rfl) ?_
  refine lv_if_eq (tgt := 13) C.1 C.2.1 dX10_book_1 (by decide) (fun h9 => absurd h9 h0) (fun _ => ?_)
  refine lv_iload_n C.1 C.2.1 dX10_book_4 rfl (lv_at hl 1 rfl) ?_
  refine lv_iconst (v := 1) C.1 C.2.1 dX10_book_5 (by decide) ?_
  refine lv_icmp_eq (tgt := 13) C.1 C.2.1 dX10_book_6 (by decide) (fun h9 => absurd h9 h1) (fun _ => ?_)
  refine lv_sipush (v := (-1000)) C.1 C.2.1 dX10_book_9 (by decide) ?_
  have hw := hw.sub (w' := []) [] rfl rfl
  exact x_reti B hw ⟨rfl, rfl⟩ (Nat.le_of_ble_eq_true rfl) (Nat.le_of_ble_eq_true rfl) dX10_book_12
theorem dX7_readOne_0 : decode cX7_readOne 0 = .ok (.aload_n 1, 1) := by decide +kernel
theorem dX7_readOne_1 : decode cX7_readOne 1 = .ok (.bipush 40, 2) := by decide +kernel
theorem dX7_readOne_3 : decode cX7_readOne 3 = .ok (.invokevirtual 70, 3) := by decide +kernel
theorem mwX9_isSign : MwV yX9_isSign cX9_isSign 2 (some .boolean) 1 := ⟨⟨kw621, kw2, by decide +kernel⟩, kw619, kw620⟩
theorem dX7_readOne_6 : decode cX7_readOne 6 = .ok (.ifCond .ne 27, 3) := by decide +kernel
theorem dX7_readOne_9 : decode cX7_readOne 9 = .ok (.aload_n 1, 1) := by decide +kernel
theorem dX7_readOne_10 : decode cX7_readOne 10 = .ok (.getfield 60, 3) := by decide +kernel
theorem dX7_readOne_13 : decode cX7_readOne 13 = .ok (.bipush 18, 2) := by decide +kernel
theorem dX7_readOne_15 : decode cX7_readOne 15 = .ok (.if_icmp .lt 12, 3) := by decide +kernel
theorem dX7_readOne_27 : decode cX7_readOne 27 = .ok (.aload_n 1, 1) := by decide +kernel
theorem dX7_readOne_28 : decode cX7_readOne 28 = .ok (.iconst 1, 1) := by decide +kernel
theorem dX7_readOne_29 : decode cX7_readOne 29 = .ok (.invokevirtual 53, 3) := by decide +kernel
theorem mwX9_fail : MwV yX9_fail cX9_fail 2 (some .boolean) 1 := ⟨⟨kw549, kw2, by decide +kernel⟩, kw547, kw548⟩
theorem dX7_readOne_32 : decode cX7_readOne 32 = .ok (.ireturn, 1) := by decide +kernel
set_option maxHeartbeats 4000000 in
set_option maxRecDepth 100000 in
theorem c_X7_readOne {l : Launch} {G : Gc} (qe : Nat) (qt : Nat) (qs : Nat) (kc : Nat) (bys : Nat) (tmo : Int32) (tfp : Int32) (ekeys : Nat) (esigns : Nat) (enumbers : Nat) (estack : Nat)  : Ci l yX7_readOne cX7_readOne 5 (some .boolean) 2 0 0 G [.ref qe, .ref qt, .ref qs, .int 1] [(qt, .inr (8, [.ref kc, .ref bys, .int 0, .int tmo, .int 0, .int 0, .int 0, .int 0, .long 0, .int (-1), .int 0, .int tfp])), (qe, .inr (6, [.int 0, .int 0, .int 0, .ref ekeys, .ref esigns, .ref enumbers, .ref estack]))] (fun (r9 : Int32) (u9 : va_W) => r9 = 0 ∧ u9 = [(qt, .inr (8, [.ref kc, .ref bys, .int 0, .int tmo, .int 0, .int 0, .int 0, .int 0, .long 0, .int (-1), .int 1, .int 0])), (qe, .inr (6, [.int 0, .int 0, .int 0, .ref ekeys, .ref esigns, .ref enumbers, .ref estack]))]) := by
  refine Ci.of (by decide) (Nat.le_of_ble_eq_true rfl) ?_
  intro p e s m below meth c ls A B hw hl
  have C : CallFix p m c cX7_readOne 5 s _ gw "LanternState$Sentence" := B.1
  have hl : lv_has ls 5 [(0, .ref qe), (1, .ref qt), (2, .ref qs), (3, .int 1)] := hl
  refine lv_aload_n C.1 C.2.1 dX7_readOne_0 rfl (lv_at hl 1 rfl) ?_
  refine lv_bipush (v := 40) C.1 C.2.1 dX7_readOne_1 (by decide) ?_
  refine x_calliV (As := [.int 40]) (rest := []) (wr := [(qe, .inr (6, [.int 0, .int 0, .int 0, .ref ekeys, .ref esigns, .ref enumbers, .ref estack]))]) C hw (c_X9_isSign0 qt 40 kc bys 0 tmo 0 0 0 0 (-1) 0 tfp) mwX9_isSign kw1030 [0] [1] rfl rfl rfl rfl (by decide) 0 rfl rfl rfl rfl hl.1 rfl (Nat.le_of_ble_eq_true rfl) ⟨(Nat.le_of_ble_eq_true rfl), (Nat.le_of_ble_eq_true rfl)⟩ ⟨(Nat.le_of_ble_eq_true rfl), (Nat.le_of_ble_eq_true rfl)⟩ dX7_readOne_3 (fun r1 u9 H locs hp9 hw => ?_)
  obtain ⟨rfl, rfl⟩ := hp9
  have hw : Wd G s A [(qe, .inr (6, [.int 0, .int 0, .int 0, .ref ekeys, .ref esigns, .ref enumbers, .ref estack])), (qt, .inr (8, [.ref kc, .ref bys, .int 0, .int tmo, .int 0, .int 0, .int 0, .int 0, .long 0, .int (-1), .int 0, .int tfp]))] H _ := hw
  refine lv_if_ne (tgt := 33) C.1 C.2.1 dX7_readOne_6 (by decide) (fun h9 => absurd (by decide) h9) (fun _ => ?_)
  refine lv_aload_n C.1 C.2.1 dX7_readOne_9 rfl (lv_at hl 1 rfl) ?_
  refine x_get C hw iwX9 8 rfl 1 rfl 9 (by decide) kw107 rfl dX7_readOne_10 ?_
  refine lv_bipush (v := 18) C.1 C.2.1 dX7_readOne_13 (by decide) ?_
  refine lv_icmp_lt (tgt := 27) C.1 C.2.1 dX7_readOne_15 (by decide) (fun _ => ?_) (fun h9 => absurd (by decide) h9)
  refine lv_aload_n C.1 C.2.1 dX7_readOne_27 rfl (lv_at hl 1 rfl) ?_
  refine lv_iconst (v := 1) C.1 C.2.1 dX7_readOne_28 (by decide) ?_
  refine x_calliV (As := [.int 1]) (rest := []) (wr := [(qe, .inr (6, [.int 0, .int 0, .int 0, .ref ekeys, .ref esigns, .ref enumbers, .ref estack]))]) C hw (c_X9_fail qt 1 kc bys 0 tmo 0 0 0 0 0 (-1) tfp) mwX9_fail kw1031 [1] [0] rfl rfl rfl rfl (by decide) 0 rfl rfl rfl rfl hl.1 rfl (Nat.le_of_ble_eq_true rfl) ⟨(Nat.le_of_ble_eq_true rfl), (Nat.le_of_ble_eq_true rfl)⟩ ⟨(Nat.le_of_ble_eq_true rfl), (Nat.le_of_ble_eq_true rfl)⟩ dX7_readOne_29 (fun r2 u9 H locs hp9 hw => ?_)
  obtain ⟨rfl, rfl⟩ := hp9
  have hw : Wd G s A [(qe, .inr (6, [.int 0, .int 0, .int 0, .ref ekeys, .ref esigns, .ref enumbers, .ref estack])), (qt, .inr (8, [.ref kc, .ref bys, .int 0, .int tmo, .int 0, .int 0, .int 0, .int 0, .long 0, .int (-1), .int 1, .int 0]))] H _ := hw
  have hw := hw.sub (w' := [(qt, .inr (8, [.ref kc, .ref bys, .int 0, .int tmo, .int 0, .int 0, .int 0, .int 0, .long 0, .int (-1), .int 1, .int 0])), (qe, .inr (6, [.int 0, .int 0, .int 0, .ref ekeys, .ref esigns, .ref enumbers, .ref estack]))]) [1, 0] rfl rfl
  exact x_retz B hw rfl ⟨rfl, rfl⟩ (Nat.le_of_ble_eq_true rfl) (Nat.le_of_ble_eq_true rfl) dX7_readOne_32
theorem dX7_readAll_0 : decode cX7_readAll 0 = .ok (.aload_n 0, 1) := by decide +kernel
theorem dX7_readAll_1 : decode cX7_readAll 1 = .ok (.aload_n 1, 1) := by decide +kernel
theorem dX7_readAll_2 : decode cX7_readAll 2 = .ok (.aload_n 2, 1) := by decide +kernel
theorem dX7_readAll_3 : decode cX7_readAll 3 = .ok (.iload_n 3, 1) := by decide +kernel
theorem dX7_readAll_4 : decode cX7_readAll 4 = .ok (.invokevirtual 67, 3) := by decide +kernel
theorem mwX7_readOne : MwV yX7_readOne cX7_readOne 5 (some .boolean) 3 := ⟨⟨kw1029, kw10, by decide +kernel⟩, kw1028, kS34⟩
theorem dX7_readAll_7 : decode cX7_readAll 7 = .ok (.istore 4, 2) := by decide +kernel
theorem dX7_readAll_9 : decode cX7_readAll 9 = .ok (.iconst 0, 1) := by decide +kernel
theorem dX7_readAll_10 : decode cX7_readAll 10 = .ok (.istore 5, 2) := by decide +kernel
theorem dX7_readAll_12 : decode cX7_readAll 12 = .ok (.iload 4, 2) := by decide +kernel
theorem dX7_readAll_14 : decode cX7_readAll 14 = .ok (.ifCond .eq 57, 3) := by decide +kernel
theorem dX7_readAll_71 : decode cX7_readAll 71 = .ok (.iload 4, 2) := by decide +kernel
theorem dX7_readAll_73 : decode cX7_readAll 73 = .ok (.ireturn, 1) := by decide +kernel
set_option maxHeartbeats 4000000 in
set_option maxRecDepth 100000 in
theorem c_X7_readAll {l : Launch} {G : Gc} (qe : Nat) (qt : Nat) (qs : Nat) (kc : Nat) (bys : Nat) (tmo : Int32) (tfp : Int32) (ekeys : Nat) (esigns : Nat) (enumbers : Nat) (estack : Nat)  : Ci l yX7_readAll cX7_readAll 6 (some .boolean) 3 0 0 G [.ref qe, .ref qt, .ref qs, .int 1] [(qt, .inr (8, [.ref kc, .ref bys, .int 0, .int tmo, .int 0, .int 0, .int 0, .int 0, .long 0, .int (-1), .int 0, .int tfp])), (qe, .inr (6, [.int 0, .int 0, .int 0, .ref ekeys, .ref esigns, .ref enumbers, .ref estack]))] (fun (r9 : Int32) (u9 : va_W) => r9 = 0 ∧ u9 = [(qt, .inr (8, [.ref kc, .ref bys, .int 0, .int tmo, .int 0, .int 0, .int 0, .int 0, .long 0, .int (-1), .int 1, .int 0])), (qe, .inr (6, [.int 0, .int 0, .int 0, .ref ekeys, .ref esigns, .ref enumbers, .ref estack]))]) := by
  refine Ci.of (by decide) (Nat.le_of_ble_eq_true rfl) ?_
  intro p e s m below meth c ls A B hw hl
  have C : CallFix p m c cX7_readAll 6 s _ gw "LanternState$Sentence" := B.1
  have hl : lv_has ls 6 [(0, .ref qe), (1, .ref qt), (2, .ref qs), (3, .int 1)] := hl
  refine lv_aload_n C.1 C.2.1 dX7_readAll_0 rfl (lv_at hl 0 rfl) ?_
  refine lv_aload_n C.1 C.2.1 dX7_readAll_1 rfl (lv_at hl 1 rfl) ?_
  refine lv_aload_n C.1 C.2.1 dX7_readAll_2 rfl (lv_at hl 2 rfl) ?_
  refine lv_iload_n C.1 C.2.1 dX7_readAll_3 rfl (lv_at hl 3 rfl) ?_
  refine x_calliV (As := [.ref qt, .ref qs, .int 1]) (rest := []) (wr := []) C hw (c_X7_readOne qe qt qs kc bys tmo tfp ekeys esigns enumbers estack) mwX7_readOne kw1026 [0, 1] [] rfl rfl rfl rfl (by decide) 1 rfl rfl rfl rfl hl.1 rfl (Nat.le_of_ble_eq_true rfl) ⟨(Nat.le_of_ble_eq_true rfl), (Nat.le_of_ble_eq_true rfl)⟩ ⟨(Nat.le_of_ble_eq_true rfl), (Nat.le_of_ble_eq_true rfl)⟩ dX7_readAll_4 (fun r1 u9 H locs hp9 hw => ?_)
  obtain ⟨rfl, rfl⟩ := hp9
  have hw : Wd G s A [(qt, .inr (8, [.ref kc, .ref bys, .int 0, .int tmo, .int 0, .int 0, .int 0, .int 0, .long 0, .int (-1), .int 1, .int 0])), (qe, .inr (6, [.int 0, .int 0, .int 0, .ref ekeys, .ref esigns, .ref enumbers, .ref estack]))] H _ := hw
  refine lv_istore (lv' := [(4, .int 0), (0, .ref qe), (1, .ref qt), (2, .ref qs), (3, .int 1)]) C.1 C.2.1 dX7_readAll_7 hl (by decide) rfl (fun ls hl => ?_)
  refine lv_iconst (v := 0) C.1 C.2.1 dX7_readAll_9 (by decide) ?_
  refine lv_istore (lv' := [(5, .int 0), (4, .int 0), (0, .ref qe), (1, .ref qt), (2, .ref qs), (3, .int 1)]) C.1 C.2.1 dX7_readAll_10 hl (by decide) rfl (fun ls hl => ?_)
  refine lv_iload C.1 C.2.1 dX7_readAll_12 (lv_at hl 1 rfl) ?_
  refine lv_if_eq (tgt := 71) C.1 C.2.1 dX7_readAll_14 (by decide) (fun _ => ?_) (fun h9 => absurd (by decide) h9)
  refine lv_iload C.1 C.2.1 dX7_readAll_71 (lv_at hl 1 rfl) ?_
  exact x_retz B hw rfl ⟨rfl, rfl⟩ (Nat.le_of_ble_eq_true rfl) (Nat.le_of_ble_eq_true rfl) dX7_readAll_73
theorem dX7_readCond_0 : decode cX7_readCond 0 = .ok (.aload_n 0, 1) := by decide +kernel
theorem dX7_readCond_1 : decode cX7_readCond 1 = .ok (.aload_n 1, 1) := by decide +kernel
theorem dX7_readCond_2 : decode cX7_readCond 2 = .ok (.aload_n 2, 1) := by decide +kernel
theorem dX7_readCond_3 : decode cX7_readCond 3 = .ok (.iload_n 3, 1) := by decide +kernel
theorem dX7_readCond_4 : decode cX7_readCond 4 = .ok (.invokevirtual 57, 3) := by decide +kernel
theorem mwX7_readAll : MwV yX7_readAll cX7_readAll 6 (some .boolean) 3 := ⟨⟨kw1025, kw10, by decide +kernel⟩, kw1024, kS33⟩
theorem dX7_readCond_7 : decode cX7_readCond 7 = .ok (.istore 4, 2) := by decide +kernel
theorem dX7_readCond_9 : decode cX7_readCond 9 = .ok (.iconst 0, 1) := by decide +kernel
theorem dX7_readCond_10 : decode cX7_readCond 10 = .ok (.istore 5, 2) := by decide +kernel
theorem dX7_readCond_12 : decode cX7_readCond 12 = .ok (.iload 4, 2) := by decide +kernel
theorem dX7_readCond_14 : decode cX7_readCond 14 = .ok (.ifCond .eq 57, 3) := by decide +kernel
theorem dX7_readCond_71 : decode cX7_readCond 71 = .ok (.iload 4, 2) := by decide +kernel
theorem dX7_readCond_73 : decode cX7_readCond 73 = .ok (.ireturn, 1) := by decide +kernel
set_option maxHeartbeats 4000000 in
set_option maxRecDepth 100000 in
theorem c_X7_readCond {l : Launch} {G : Gc} (qe : Nat) (qt : Nat) (qs : Nat) (kc : Nat) (bys : Nat) (tmo : Int32) (tfp : Int32) (ekeys : Nat) (esigns : Nat) (enumbers : Nat) (estack : Nat)  : Ci l yX7_readCond cX7_readCond 6 (some .boolean) 4 0 0 G [.ref qe, .ref qt, .ref qs, .int 1] [(qt, .inr (8, [.ref kc, .ref bys, .int 0, .int tmo, .int 0, .int 0, .int 0, .int 0, .long 0, .int (-1), .int 0, .int tfp])), (qe, .inr (6, [.int 0, .int 0, .int 0, .ref ekeys, .ref esigns, .ref enumbers, .ref estack]))] (fun (r9 : Int32) (u9 : va_W) => r9 = 0 ∧ u9 = [(qt, .inr (8, [.ref kc, .ref bys, .int 0, .int tmo, .int 0, .int 0, .int 0, .int 0, .long 0, .int (-1), .int 1, .int 0])), (qe, .inr (6, [.int 0, .int 0, .int 0, .ref ekeys, .ref esigns, .ref enumbers, .ref estack]))]) := by
  refine Ci.of (by decide) (Nat.le_of_ble_eq_true rfl) ?_
  intro p e s m below meth c ls A B hw hl
  have C : CallFix p m c cX7_readCond 6 s _ gw "LanternState$Sentence" := B.1
  have hl : lv_has ls 6 [(0, .ref qe), (1, .ref qt), (2, .ref qs), (3, .int 1)] := hl
  refine lv_aload_n C.1 C.2.1 dX7_readCond_0 rfl (lv_at hl 0 rfl) ?_
  refine lv_aload_n C.1 C.2.1 dX7_readCond_1 rfl (lv_at hl 1 rfl) ?_
  refine lv_aload_n C.1 C.2.1 dX7_readCond_2 rfl (lv_at hl 2 rfl) ?_
  refine lv_iload_n C.1 C.2.1 dX7_readCond_3 rfl (lv_at hl 3 rfl) ?_
  refine x_calliV (As := [.ref qt, .ref qs, .int 1]) (rest := []) (wr := []) C hw (c_X7_readAll qe qt qs kc bys tmo tfp ekeys esigns enumbers estack) mwX7_readAll kw1022 [0, 1] [] rfl rfl rfl rfl (by decide) 1 rfl rfl rfl rfl hl.1 rfl (Nat.le_of_ble_eq_true rfl) ⟨(Nat.le_of_ble_eq_true rfl), (Nat.le_of_ble_eq_true rfl)⟩ ⟨(Nat.le_of_ble_eq_true rfl), (Nat.le_of_ble_eq_true rfl)⟩ dX7_readCond_4 (fun r1 u9 H locs hp9 hw => ?_)
  obtain ⟨rfl, rfl⟩ := hp9
  have hw : Wd G s A [(qt, .inr (8, [.ref kc, .ref bys, .int 0, .int tmo, .int 0, .int 0, .int 0, .int 0, .long 0, .int (-1), .int 1, .int 0])), (qe, .inr (6, [.int 0, .int 0, .int 0, .ref ekeys, .ref esigns, .ref enumbers, .ref estack]))] H _ := hw
  refine lv_istore (lv' := [(4, .int 0), (0, .ref qe), (1, .ref qt), (2, .ref qs), (3, .int 1)]) C.1 C.2.1 dX7_readCond_7 hl (by decide) rfl (fun ls hl => ?_)
  refine lv_iconst (v := 0) C.1 C.2.1 dX7_readCond_9 (by decide) ?_
  refine lv_istore (lv' := [(5, .int 0), (4, .int 0), (0, .ref qe), (1, .ref qt), (2, .ref qs), (3, .int 1)]) C.1 C.2.1 dX7_readCond_10 hl (by decide) rfl (fun ls hl => ?_)
  refine lv_iload C.1 C.2.1 dX7_readCond_12 (lv_at hl 1 rfl) ?_
  refine lv_if_eq (tgt := 71) C.1 C.2.1 dX7_readCond_14 (by decide) (fun _ => ?_) (fun h9 => absurd (by decide) h9)
  refine lv_iload C.1 C.2.1 dX7_readCond_71 (lv_at hl 1 rfl) ?_
  exact x_retz B hw rfl ⟨rfl, rfl⟩ (Nat.le_of_ble_eq_true rfl) (Nat.le_of_ble_eq_true rfl) dX7_readCond_73
theorem dX7_read_0 : decode cX7_read 0 = .ok (.aload_n 0, 1) := by decide +kernel
theorem dX7_read_1 : decode cX7_read 1 = .ok (.iconst 0, 1) := by decide +kernel
theorem dX7_read_2 : decode cX7_read 2 = .ok (.putfield 28, 3) := by decide +kernel
theorem dX7_read_5 : decode cX7_read 5 = .ok (.aload_n 0, 1) := by decide +kernel
theorem dX7_read_6 : decode cX7_read 6 = .ok (.iconst 0, 1) := by decide +kernel
theorem dX7_read_7 : decode cX7_read 7 = .ok (.putfield 32, 3) := by decide +kernel
theorem dX7_read_10 : decode cX7_read 10 = .ok (.aload_n 1, 1) := by decide +kernel
theorem dX7_read_11 : decode cX7_read 11 = .ok (.invokevirtual 41, 3) := by decide +kernel
theorem dX7_read_14 : decode cX7_read 14 = .ok (.aload_n 0, 1) := by decide +kernel
theorem dX7_read_15 : decode cX7_read 15 = .ok (.aload_n 0, 1) := by decide +kernel
theorem dX7_read_16 : decode cX7_read 16 = .ok (.aload_n 1, 1) := by decide +kernel
theorem dX7_read_17 : decode cX7_read 17 = .ok (.aload_n 2, 1) := by decide +kernel
theorem dX7_read_18 : decode cX7_read 18 = .ok (.iconst 1, 1) := by decide +kernel
theorem dX7_read_19 : decode cX7_read 19 = .ok (.invokevirtual 46, 3) := by decide +kernel
theorem mwX7_readCond : MwV yX7_readCond cX7_readCond 6 (some .boolean) 3 := ⟨⟨kw1021, kw10, by decide +kernel⟩, kw1020, kS32⟩
theorem dX7_read_22 : decode cX7_read 22 = .ok (.ifCond .eq 22, 3) := by decide +kernel
theorem dX7_read_44 : decode cX7_read 44 = .ok (.iconst 0, 1) := by decide +kernel
theorem dX7_read_45 : decode cX7_read 45 = .ok (.putfield 24, 3) := by decide +kernel
theorem dX7_read_48 : decode cX7_read 48 = .ok (.aload_n 0, 1) := by decide +kernel
theorem dX7_read_49 : decode cX7_read 49 = .ok (.getfield 24, 3) := by decide +kernel
theorem dX7_read_52 : decode cX7_read 52 = .ok (.ireturn, 1) := by decide +kernel
set_option maxHeartbeats 4000000 in
set_option maxRecDepth 100000 in
theorem c_X7_read {l : Launch} {G : Gc} (qe : Nat) (qt : Nat) (qs : Nat) (kc : Nat) (bys : Nat) (tmo : Int32) (tki : Int32) (tpl : Int32) (tva : Int32) (tco : Int64) (tke : Int32) (tfp : Int32) (ekeys : Nat) (esigns : Nat) (enumbers : Nat) (estack : Nat) (hm : (0 : Int32) ≤ tmo) : Ci l yX7_read cX7_read 3 (some .boolean) 5 0 0 G [.ref qe, .ref qt, .ref qs] [(qt, .inr (8, [.ref kc, .ref bys, .int 0, .int tmo, .int 0, .int tki, .int tpl, .int tva, .long tco, .int tke, .int 0, .int tfp])), (qe, .inr (6, [.int 0, .int 0, .int 0, .ref ekeys, .ref esigns, .ref enumbers, .ref estack]))] (fun (r9 : Int32) (u9 : va_W) => r9 = 0 ∧ u9 = [(qt, .inr (8, [.ref kc, .ref bys, .int 0, .int tmo, .int 0, .int 0, .int 0, .int 0, .long 0, .int (-1), .int 1, .int 0])), (qe, .inr (6, [.int 0, .int 0, .int 0, .ref ekeys, .ref esigns, .ref enumbers, .ref estack]))]) := by
  refine Ci.of (by decide) (Nat.le_of_ble_eq_true rfl) ?_
  intro p e s m below meth c ls A B hw hl
  have C : CallFix p m c cX7_read 3 s _ gw "LanternState$Sentence" := B.1
  have hl : lv_has ls 3 [(0, .ref qe), (1, .ref qt), (2, .ref qs)] := hl
  refine lv_aload_n C.1 C.2.1 dX7_read_0 rfl (lv_at hl 0 rfl) ?_
  refine lv_iconst (v := 0) C.1 C.2.1 dX7_read_1 (by decide) ?_
  refine x_put (w' := [(qt, .inr (8, [.ref kc, .ref bys, .int 0, .int tmo, .int 0, .int tki, .int tpl, .int tva, .long tco, .int tke, .int 0, .int tfp])), (qe, .inr (6, [.int 0, .int 0, .int 0, .ref ekeys, .ref esigns, .ref enumbers, .ref estack]))]) C hw iwX7 tyX7_ok nmX7 6 rfl 1 rfl 1 (by decide) kw322 rfl rfl rfl (Nat.le_of_ble_eq_true rfl) rfl dX7_read_2 (fun H locs hw => ?_)
  refine lv_aload_n C.1 C.2.1 dX7_read_5 rfl (lv_at hl 0 rfl) ?_
  refine lv_iconst (v := 0) C.1 C.2.1 dX7_read_6 (by decide) ?_
  refine x_put (w' := [(qt, .inr (8, [.ref kc, .ref bys, .int 0, .int tmo, .int 0, .int tki, .int tpl, .int tva, .long tco, .int tke, .int 0, .int tfp])), (qe, .inr (6, [.int 0, .int 0, .int 0, .ref ekeys, .ref esigns, .ref enumbers, .ref estack]))]) C hw iwX7 tyX7_ok nmX7 6 rfl 1 rfl 2 (by decide) kw324 rfl rfl rfl (Nat.le_of_ble_eq_true rfl) rfl dX7_read_7 (fun H locs hw => ?_)
  refine lv_aload_n C.1 C.2.1 dX7_read_10 rfl (lv_at hl 1 rfl) ?_
  refine x_callvV (As := []) (rest := []) (wr := [(qe, .inr (6, [.int 0, .int 0, .int 0, .ref ekeys, .ref esigns, .ref enumbers, .ref estack]))]) C hw (c_X9_next0 qt kc bys tmo tki tpl tva tco tke 0 tfp hm) mwX9_next kw1017 [0] [1] rfl rfl rfl rfl (by decide) 0 rfl rfl rfl rfl hl.1 rfl (Nat.le_of_ble_eq_true rfl) ⟨(Nat.le_of_ble_eq_true rfl), (Nat.le_of_ble_eq_true rfl)⟩ ⟨(Nat.le_of_ble_eq_true rfl), (Nat.le_of_ble_eq_true rfl)⟩ dX7_read_11 (fun  u9 H locs hp9 hw => ?_)
  obtain rfl := hp9
  have hw : Wd G s A [(qe, .inr (6, [.int 0, .int 0, .int 0, .ref ekeys, .ref esigns, .ref enumbers, .ref estack])), (qt, .inr (8, [.ref kc, .ref bys, .int 0, .int tmo, .int 0, .int 0, .int 0, .int 0, .long 0, .int (-1), .int 0, .int tfp]))] H _ := hw
  refine lv_aload_n C.1 C.2.1 dX7_read_14 rfl (lv_at hl 0 rfl) ?_
  refine lv_aload_n C.1 C.2.1 dX7_read_15 rfl (lv_at hl 0 rfl) ?_
  refine lv_aload_n C.1 C.2.1 dX7_read_16 rfl (lv_at hl 1 rfl) ?_
  refine lv_aload_n C.1 C.2.1 dX7_read_17 rfl (lv_at hl 2 rfl) ?_
  refine lv_iconst (v := 1) C.1 C.2.1 dX7_read_18 (by decide) ?_
  refine x_calliV (As := [.ref qt, .ref qs, .int 1]) (rest := [.ref qe]) (wr := []) C hw (c_X7_readCond qe qt qs kc bys tmo tfp ekeys esigns enumbers estack) mwX7_readCond kw1018 [1, 0] [] rfl rfl rfl rfl (by decide) 1 rfl rfl rfl rfl hl.1 rfl (Nat.le_of_ble_eq_true rfl) ⟨(Nat.le_of_ble_eq_true rfl), (Nat.le_of_ble_eq_true rfl)⟩ ⟨(Nat.le_of_ble_eq_true rfl), (Nat.le_of_ble_eq_true rfl)⟩ dX7_read_19 (fun r1 u9 H locs hp9 hw => ?_)
  obtain ⟨rfl, rfl⟩ := hp9
  have hw : Wd G s A [(qt, .inr (8, [.ref kc, .ref bys, .int 0, .int tmo, .int 0, .int 0, .int 0, .int 0, .long 0, .int (-1), .int 1, .int 0])), (qe, .inr (6, [.int 0, .int 0, .int 0, .ref ekeys, .ref esigns, .ref enumbers, .ref estack]))] H _ := hw
  refine lv_if_eq (tgt := 44) C.1 C.2.1 dX7_read_22 (by decide) (fun _ => ?_) (fun h9 => absurd (by decide) h9)
  refine lv_iconst (v := 0) C.1 C.2.1 dX7_read_44 (by decide) ?_
  refine x_put (w' := [(qt, .inr (8, [.ref kc, .ref bys, .int 0, .int tmo, .int 0, .int 0, .int 0, .int 0, .long 0, .int (-1), .int 1, .int 0])), (qe, .inr (6, [.int 0, .int 0, .int 0, .ref ekeys, .ref esigns, .ref enumbers, .ref estack]))]) C hw iwX7 tyX7_ok nmX7 6 rfl 1 rfl 0 (by decide) kw320 rfl (by first | rfl | decide) rfl (Nat.le_of_ble_eq_true rfl) rfl dX7_read_45 (fun H locs hw => ?_)
  refine lv_aload_n C.1 C.2.1 dX7_read_48 rfl (lv_at hl 0 rfl) ?_
  refine x_get C hw iwX7 6 rfl 1 rfl 0 (by decide) kw320 rfl dX7_read_49 ?_
  exact x_retz B hw rfl ⟨rfl, rfl⟩ (Nat.le_of_ble_eq_true rfl) (Nat.le_of_ble_eq_true rfl) dX7_read_52
theorem dX10_sentence_0 : decode cX10_sentence 0 = .ok (.aload_n 0, 1) := by decide +kernel
theorem dX10_sentence_1 : decode cX10_sentence 1 = .ok (.getfield 10, 3) := by decide +kernel
theorem dX10_sentence_4 : decode cX10_sentence 4 = .ok (.sipush 200, 3) := by decide +kernel
theorem dX10_sentence_7 : decode cX10_sentence 7 = .ok (.invokevirtual 99, 3) := by decide +kernel
theorem dX10_sentence_10 : decode cX10_sentence 10 = .ok (.aload_n 0, 1) := by decide +kernel
theorem dX10_sentence_11 : decode cX10_sentence 11 = .ok (.getfield 50, 3) := by decide +kernel
theorem dX10_sentence_14 : decode cX10_sentence 14 = .ok (.aload_n 0, 1) := by decide +kernel
theorem dX10_sentence_15 : decode cX10_sentence 15 = .ok (.getfield 10, 3) := by decide +kernel
theorem dX10_sentence_18 : decode cX10_sentence 18 = .ok (.aload_n 0, 1) := by decide +kernel
theorem dX10_sentence_19 : decode cX10_sentence 19 = .ok (.getfield 19, 3) := by decide +kernel
theorem dX10_sentence_22 : decode cX10_sentence 22 = .ok (.invokevirtual 325, 3) := by decide +kernel
theorem mwX7_read : MwV yX7_read cX7_read 3 (some .boolean) 2 := ⟨⟨kw1016, kw10, by decide +kernel⟩, kw1014, kw1015⟩
theorem dX10_sentence_25 : decode cX10_sentence 25 = .ok (.istore_n 1, 1) := by decide +kernel
theorem dX10_sentence_26 : decode cX10_sentence 26 = .ok (.aload_n 0, 1) := by decide +kernel
theorem dX10_sentence_27 : decode cX10_sentence 27 = .ok (.invokevirtual 106, 3) := by decide +kernel
theorem dX10_sentence_30 : decode cX10_sentence 30 = .ok (.iload_n 1, 1) := by decide +kernel
theorem dX10_sentence_31 : decode cX10_sentence 31 = .ok (.ifCond .ne 13, 3) := by decide +kernel
theorem dX10_sentence_34 : decode cX10_sentence 34 = .ok (.iconst (-1), 1) := by decide +kernel
theorem dX10_sentence_35 : decode cX10_sentence 35 = .ok (.aload_n 0, 1) := by decide +kernel
theorem dX10_sentence_36 : decode cX10_sentence 36 = .ok (.getfield 10, 3) := by decide +kernel
theorem dX10_sentence_39 : decode cX10_sentence 39 = .ok (.getfield 109, 3) := by decide +kernel
theorem dX10_sentence_42 : decode cX10_sentence 42 = .ok (.isub, 1) := by decide +kernel
theorem dX10_sentence_43 : decode cX10_sentence 43 = .ok (.ireturn, 1) := by decide +kernel
set_option maxHeartbeats 4000000 in
set_option maxRecDepth 100000 in
theorem c_X10_sentence {l : Launch} {G : Gc} (qx : Nat) (qt : Nat) (qs : Nat) (qd : Nat) (qa : Nat) (qb : Nat) (qh : Nat) (qr : Nat) (qe : Nat) (qp : Nat) (qf : Nat) (qn : Nat) (qi : Nat) (qo : Nat) (kc : Nat) (bys : Nat) (ekeys : Nat) (esigns : Nat) (enumbers : Nat) (estack : Nat)  : Ci l yX10_sentence cX10_sentence 2 (some .int) 6 0 0 G [.ref qx] [(qx, .inr (9, [.ref qt, .ref qs, .ref qd, .ref qa, .ref qb, .ref qh, .ref qr, .ref qe, .ref qp, .ref qf, .ref qn, .ref qi, .ref qo, .int 0, .int 0, .int (-1), .int (-1)])), (qt, .inr (8, [.ref kc, .ref bys, .int 0, .int 0, .int 0, .int 0, .int 0, .int 0, .long 0, .int 0, .int 0, .int 0])), (qe, .inr (6, [.int 0, .int 0, .int 0, .ref ekeys, .ref esigns, .ref enumbers, .ref estack]))] (fun (r9 : Int32) (u9 : va_W) => r9 = (-1) ∧ u9 = []) := by
  refine Ci.of (by decide) (Nat.le_of_ble_eq_true rfl) ?_
  intro p e s m below meth c ls A B hw hl
  have C : CallFix p m c cX10_sentence 2 s _ gw "LanternState" := B.1
  have hl : lv_has ls 2 [(0, .ref qx)] := hl
  refine lv_aload_n C.1 C.2.1 dX10_sentence_0 rfl (lv_at hl 0 rfl) ?_
  refine x_get C hw iwX10 9 rfl 0 rfl 0 (by decide) kw446 rfl dX10_sentence_1 ?_
  refine lv_sipush (v := 200) C.1 C.2.1 dX10_sentence_4 (by decide) ?_
  refine x_callvV (As := [.int 200]) (rest := []) (wr := [(qx, .inr (9, [.ref qt, .ref qs, .ref qd, .ref qa, .ref qb, .ref qh, .ref qr, .ref qe, .ref qp, .ref qf, .ref qn, .ref qi, .ref qo, .int 0, .int 0, .int (-1), .int (-1)])), (qe, .inr (6, [.int 0, .int 0, .int 0, .ref ekeys, .ref esigns, .ref enumbers, .ref estack]))]) C hw (c_X9_open qt 200 kc bys 0 0 0 0 0 0 0 0 0 0) mwX9_open kw514 [1] [0, 2] rfl rfl rfl rfl (by decide) 0 rfl rfl rfl rfl hl.1 rfl (Nat.le_of_ble_eq_true rfl) ⟨(Nat.le_of_ble_eq_true rfl), (Nat.le_of_ble_eq_true rfl)⟩ ⟨(Nat.le_of_ble_eq_true rfl), (Nat.le_of_ble_eq_true rfl)⟩ dX10_sentence_7 (fun  u9 H locs hp9 hw => ?_)
  obtain rfl := hp9
  have hw : Wd G s A [(qx, .inr (9, [.ref qt, .ref qs, .ref qd, .ref qa, .ref qb, .ref qh, .ref qr, .ref qe, .ref qp, .ref qf, .ref qn, .ref qi, .ref qo, .int 0, .int 0, .int (-1), .int (-1)])), (qe, .inr (6, [.int 0, .int 0, .int 0, .ref ekeys, .ref esigns, .ref enumbers, .ref estack])), (qt, .inr (8, [.ref kc, .ref bys, .int 0, .int 200, .int 0, .int 0, .int 0, .int 0, .long 0, .int 0, .int 0, .int 0]))] H _ := hw
  refine lv_aload_n C.1 C.2.1 dX10_sentence_10 rfl (lv_at hl 0 rfl) ?_
  refine x_get C hw iwX10 9 rfl 0 rfl 7 (by decide) kw453 rfl dX10_sentence_11 ?_
  refine lv_aload_n C.1 C.2.1 dX10_sentence_14 rfl (lv_at hl 0 rfl) ?_
  refine x_get C hw iwX10 9 rfl 0 rfl 0 (by decide) kw446 rfl dX10_sentence_15 ?_
  refine lv_aload_n C.1 C.2.1 dX10_sentence_18 rfl (lv_at hl 0 rfl) ?_
  refine x_get C hw iwX10 9 rfl 0 rfl 1 (by decide) kw447 rfl dX10_sentence_19 ?_
  refine x_calliV (As := [.ref qt, .ref qs]) (rest := []) (wr := [(qx, .inr (9, [.ref qt, .ref qs, .ref qd, .ref qa, .ref qb, .ref qh, .ref qr, .ref qe, .ref qp, .ref qf, .ref qn, .ref qi, .ref qo, .int 0, .int 0, .int (-1), .int (-1)]))]) C hw (c_X7_read qe qt qs kc bys 200 0 0 0 0 0 0 ekeys esigns enumbers estack (by decide)) mwX7_read kw1013 [2, 1] [0] rfl rfl rfl rfl (by decide) 1 rfl rfl rfl rfl hl.1 rfl (Nat.le_of_ble_eq_true rfl) ⟨(Nat.le_of_ble_eq_true rfl), (Nat.le_of_ble_eq_true rfl)⟩ ⟨(Nat.le_of_ble_eq_true rfl), (Nat.le_of_ble_eq_true rfl)⟩ dX10_sentence_22 (fun r1 u9 H locs hp9 hw => ?_)
  obtain ⟨rfl, rfl⟩ := hp9
  have hw : Wd G s A [(qx, .inr (9, [.ref qt, .ref qs, .ref qd, .ref qa, .ref qb, .ref qh, .ref qr, .ref qe, .ref qp, .ref qf, .ref qn, .ref qi, .ref qo, .int 0, .int 0, .int (-1), .int (-1)])), (qt, .inr (8, [.ref kc, .ref bys, .int 0, .int 200, .int 0, .int 0, .int 0, .int 0, .long 0, .int (-1), .int 1, .int 0])), (qe, .inr (6, [.int 0, .int 0, .int 0, .ref ekeys, .ref esigns, .ref enumbers, .ref estack]))] H _ := hw
  refine lv_istore_n (lv' := [(1, .int 0), (0, .ref qx)]) C.1 C.2.1 dX10_sentence_25 rfl hl (by decide) rfl (fun ls hl => ?_)
  refine lv_aload_n C.1 C.2.1 dX10_sentence_26 rfl (lv_at hl 1 rfl) ?_
  refine x_callvV (As := []) (rest := []) (wr := [(qe, .inr (6, [.int 0, .int 0, .int 0, .ref ekeys, .ref esigns, .ref enumbers, .ref estack]))]) C hw (c_X10_closeText qx qt qs qd qa qb qh qr qe qp qf qn qi qo 0 kc bys 0 200 0 0 0 0 0 (-1) 1 0) mwX10_closeText kw622 [0, 1] [2] rfl rfl rfl rfl (by decide) 0 rfl rfl rfl rfl hl.1 rfl (Nat.le_of_ble_eq_true rfl) ⟨(Nat.le_of_ble_eq_true rfl), (Nat.le_of_ble_eq_true rfl)⟩ ⟨(Nat.le_of_ble_eq_true rfl), (Nat.le_of_ble_eq_true rfl)⟩ dX10_sentence_27 (fun  u9 H locs hp9 hw => ?_)
  obtain rfl := hp9
  have hw : Wd G s A [(qe, .inr (6, [.int 0, .int 0, .int 0, .ref ekeys, .ref esigns, .ref enumbers, .ref estack])), (qx, .inr (9, [.ref qt, .ref qs, .ref qd, .ref qa, .ref qb, .ref qh, .ref qr, .ref qe, .ref qp, .ref qf, .ref qn, .ref qi, .ref qo, .int 0, .int 1, .int (-1), .int (-1)])), (qt, .inr (8, [.ref kc, .ref bys, .int 0, .int 200, .int 0, .int 0, .int 0, .int 0, .long 0, .int (-1), .int 1, .int 0]))] H _ := hw
  refine lv_iload_n C.1 C.2.1 dX10_sentence_30 rfl (lv_at hl 0 rfl) ?_
  refine lv_if_ne (tgt := 44) C.1 C.2.1 dX10_sentence_31 (by decide) (fun h9 => absurd (by decide) h9) (fun _ => ?_)
  refine lv_iconst (v := (-1)) C.1 C.2.1 dX10_sentence_34 (by decide) ?_
  refine lv_aload_n C.1 C.2.1 dX10_sentence_35 rfl (lv_at hl 1 rfl) ?_
  refine x_get C hw iwX10 9 rfl 1 rfl 0 (by decide) kw446 rfl dX10_sentence_36 ?_
  refine x_get C hw iwX9 8 rfl 2 rfl 11 (by decide) kw112 rfl dX10_sentence_39 ?_
  refine lv_isub C.1 C.2.1 dX10_sentence_42 ?_
  refine x_topi (z := (-1)) (by decide) ?_
  have hw := hw.sub (w' := []) [] rfl rfl
  exact x_reti B hw ⟨rfl, rfl⟩ (Nat.le_of_ble_eq_true rfl) (Nat.le_of_ble_eq_true rfl) dX10_sentence_43
theorem dX10_image_0 : decode cX10_image 0 = .ok (.iload_n 1, 1) := by decide +kernel
theorem dX10_image_1 : decode cX10_image 1 = .ok (.ifCond .lt 8, 3) := by decide +kernel
theorem dX10_image_4 : decode cX10_image 4 = .ok (.iload_n 1, 1) := by decide +kernel
theorem dX10_image_5 : decode cX10_image 5 = .ok (.iconst 2, 1) := by decide +kernel
theorem dX10_image_6 : decode cX10_image 6 = .ok (.if_icmp .lt 5, 3) := by decide +kernel
theorem dX10_image_11 : decode cX10_image 11 = .ok (.aload_n 0, 1) := by decide +kernel
theorem dX10_image_12 : decode cX10_image 12 = .ok (.getfield 76, 3) := by decide +kernel
theorem dX10_image_15 : decode cX10_image 15 = .ok (.iload_n 1, 1) := by decide +kernel
theorem dX10_image_16 : decode cX10_image 16 = .ok (.aaload, 1) := by decide +kernel
theorem dX10_image_17 : decode cX10_image 17 = .ok (.getfield 335, 3) := by decide +kernel
theorem dX10_image_20 : decode cX10_image 20 = .ok (.aload_n 0, 1) := by decide +kernel
theorem dX10_image_21 : decode cX10_image 21 = .ok (.getfield 19, 3) := by decide +kernel
theorem dX10_image_24 : decode cX10_image 24 = .ok (.invokevirtual 112, 3) := by decide +kernel
theorem dX10_image_27 : decode cX10_image 27 = .ok (.aload_n 0, 1) := by decide +kernel
theorem dX10_image_28 : decode cX10_image 28 = .ok (.getfield 76, 3) := by decide +kernel
theorem dX10_image_31 : decode cX10_image 31 = .ok (.iload_n 1, 1) := by decide +kernel
theorem dX10_image_32 : decode cX10_image 32 = .ok (.aaload, 1) := by decide +kernel
theorem dX10_image_33 : decode cX10_image 33 = .ok (.getfield 336, 3) := by decide +kernel
theorem dX10_image_36 : decode cX10_image 36 = .ok (.aload_n 0, 1) := by decide +kernel
theorem dX10_image_37 : decode cX10_image 37 = .ok (.getfield 29, 3) := by decide +kernel
theorem dX10_image_40 : decode cX10_image 40 = .ok (.invokevirtual 226, 3) := by decide +kernel
theorem dX10_image_43 : decode cX10_image 43 = .ok (.aload_n 0, 1) := by decide +kernel
theorem dX10_image_44 : decode cX10_image 44 = .ok (.getfield 76, 3) := by decide +kernel
theorem dX10_image_47 : decode cX10_image 47 = .ok (.iload_n 1, 1) := by decide +kernel
theorem dX10_image_48 : decode cX10_image 48 = .ok (.aaload, 1) := by decide +kernel
theorem dX10_image_49 : decode cX10_image 49 = .ok (.getfield 337, 3) := by decide +kernel
theorem dX10_image_52 : decode cX10_image 52 = .ok (.aload_n 0, 1) := by decide +kernel
theorem dX10_image_53 : decode cX10_image 53 = .ok (.getfield 46, 3) := by decide +kernel
theorem dX10_image_56 : decode cX10_image 56 = .ok (.invokevirtual 326, 3) := by decide +kernel
theorem mwX7_copyFrom : MwV yX7_copyFrom cX7_copyFrom 2 none 1 := ⟨⟨kw1052, kw10, by decide +kernel⟩, kw1050, kw1051⟩
theorem dX10_image_59 : decode cX10_image 59 = .ok (.aload_n 0, 1) := by decide +kernel
theorem dX10_image_60 : decode cX10_image 60 = .ok (.getfield 76, 3) := by decide +kernel
theorem dX10_image_63 : decode cX10_image 63 = .ok (.iload_n 1, 1) := by decide +kernel
theorem dX10_image_64 : decode cX10_image 64 = .ok (.aaload, 1) := by decide +kernel
theorem dX10_image_65 : decode cX10_image 65 = .ok (.iconst 1, 1) := by decide +kernel
theorem dX10_image_66 : decode cX10_image 66 = .ok (.putfield 338, 3) := by decide +kernel
theorem dX10_image_69 : decode cX10_image 69 = .ok (.iconst 1, 1) := by decide +kernel
theorem dX10_image_70 : decode cX10_image 70 = .ok (.ireturn, 1) := by decide +kernel
set_option maxHeartbeats 4000000 in
set_option maxRecDepth 100000 in
theorem c_X10_image__0 {l : Launch} {G : Gc} (qx : Nat) (qt : Nat) (qs : Nat) (qd : Nat) (qa : Nat) (qb : Nat) (qh : Nat) (qr : Nat) (qe : Nat) (qp : Nat) (qf : Nat) (qn : Nat) (qi : Nat) (qo : Nat) (sslideNames : Nat) (spictures : Nat) (sheats : Nat) (safter : Nat) (shearerNames : Nat) (sneeds : Nat) (slikes : Nat) (shates : Nat) (snear : Nat) (apictures : Nat) (ashown : Nat) (asighed : Nat) (rkeys : Nat) (rsigns : Nat) (rnumbers : Nat) (rstack : Nat) (i0 : Nat) (i0s : Nat) (i0a : Nat) (i0r : Nat) (i0sslideNames : Nat) (i0spictures : Nat) (i0sheats : Nat) (i0safter : Nat) (i0shearerNames : Nat) (i0sneeds : Nat) (i0slikes : Nat) (i0shates : Nat) (i0snear : Nat) (i0apictures : Nat) (i0ashown : Nat) (i0asighed : Nat) (i0rkeys : Nat) (i0rsigns : Nat) (i0rnumbers : Nat) (i0rstack : Nat) (i1 : Nat)  : Ci l yX10_image cX10_image 2 (some .boolean) 3 0 0 G [.ref qx, .int 0] [(qx, .inr (9, [.ref qt, .ref qs, .ref qd, .ref qa, .ref qb, .ref qh, .ref qr, .ref qe, .ref qp, .ref qf, .ref qn, .ref qi, .ref qo, .int 0, .int 0, .int (-1), .int (-1)])), (qs, .inr (4, [.int 0, .int 0, .int 0, .int 0, .int 1, .int 0, .int 40, .int 0, .int 0, .ref sslideNames, .ref spictures, .ref sheats, .ref safter, .ref shearerNames, .ref sneeds, .ref slikes, .ref shates, .ref snear])), (sslideNames, eJ G 6 (fun _ => 0)), (spictures, eI G 6 (fun _ => 0)), (sheats, eI G 6 (fun _ => 0)), (safter, eI G 6 (fun _ => 0)), (shearerNames, eJ G 8 (fun _ => 0)), (sneeds, eI G 8 (fun _ => 0)), (slikes, eI G 8 (fun _ => 0)), (shates, eI G 8 (fun _ => 0)), (snear, eI G 8 (fun _ => 0)), (qa, .inr (7, [.int 0, .int 0, .int 0, .int 0, .int 0, .int 0, .int 0, .int 0, .ref apictures, .ref ashown, .ref asighed])), (apictures, eI G 6 (fun _ => 0)), (ashown, eI G 6 (fun _ => 0)), (asighed, eI G 8 (fun _ => 0)), (qr, .inr (6, [.int 0, .int 0, .int 0, .ref rkeys, .ref rsigns, .ref rnumbers, .ref rstack])), (rkeys, eI G 40 (fun _ => 0)), (rsigns, eI G 40 (fun _ => 0)), (rnumbers, eI G 40 (fun _ => 0)), (rstack, eI G 40 (fun _ => 0)), (qi, eIm G 2 (va_up (va_up (fun _ => none) 0 (some i0)) 1 (some i1))), (i0, .inr (3, [.int 0, .ref i0s, .ref i0a, .ref i0r])), (i0s, .inr (4, [.int 0, .int 0, .int 0, .int 0, .int 1, .int 0, .int 40, .int 0, .int 0, .ref i0sslideNames, .ref i0spictures, .ref i0sheats, .ref i0safter, .ref i0shearerNames, .ref i0sneeds, .ref i0slikes, .ref i0shates, .ref i0snear])), (i0sslideNames, eJ G 6 (fun _ => 0)), (i0spictures, eI G 6 (fun _ => 0)), (i0sheats, eI G 6 (fun _ => 0)), (i0safter, eI G 6 (fun _ => 0)), (i0shearerNames, eJ G 8 (fun _ => 0)), (i0sneeds, eI G 8 (fun _ => 0)), (i0slikes, eI G 8 (fun _ => 0)), (i0shates, eI G 8 (fun _ => 0)), (i0snear, eI G 8 (fun _ => 0)), (i0a, .inr (7, [.int 0, .int 0, .int 0, .int 0, .int 0, .int 0, .int 0, .int 0, .ref i0apictures, .ref i0ashown, .ref i0asighed])), (i0apictures, eI G 6 (fun _ => 0)), (i0ashown, eI G 6 (fun _ => 0)), (i0asighed, eI G 8 (fun _ => 0)), (i0r, .inr (6, [.int 0, .int 0, .int 0, .ref i0rkeys, .ref i0rsigns, .ref i0rnumbers, .ref i0rstack])), (i0rkeys, eI G 40 (fun _ => 0)), (i0rsigns, eI G 40 (fun _ => 0)), (i0rnumbers, eI G 40 (fun _ => 0)), (i0rstack, eI G 40 (fun _ => 0))] (fun (r9 : Int32) (u9 : va_W) => r9 = 1 ∧ u9 = []) := by
  refine Ci.of (by decide) (Nat.le_of_ble_eq_true rfl) ?_
  intro p e s m below meth c ls A B hw hl
  have C : CallFix p m c cX10_image 2 s _ gw "LanternState" := B.1
  have hl : lv_has ls 2 [(0, .ref qx), (1, .int 0)] := hl
  refine lv_iload_n C.1 C.2.1 dX10_image_0 rfl (lv_at hl 1 rfl) ?_
  refine lv_if_lt (tgt := 9) C.1 C.2.1 dX10_image_1 (by decide) (fun h9 => absurd h9 (by decide)) (fun _ => ?_)
  refine lv_iload_n C.1 C.2.1 dX10_image_4 rfl (lv_at hl 1 rfl) ?_
  refine lv_iconst (v := 2) C.1 C.2.1 dX10_image_5 (by decide) ?_
  refine lv_icmp_lt (tgt := 11) C.1 C.2.1 dX10_image_6 (by decide) (fun _ => ?_) (fun h9 => absurd (by decide) h9)
  refine lv_aload_n C.1 C.2.1 dX10_image_11 rfl (lv_at hl 0 rfl) ?_
  refine x_get C hw iwX10 9 rfl 0 rfl 11 (by decide) kw457 rfl dX10_image_12 ?_
  refine lv_iload_n C.1 C.2.1 dX10_image_15 rfl (lv_at hl 1 rfl) ?_
  refine x_aldIm (b := i0) C hw 20 rfl (x_in rfl) rfl dX10_image_16 ?_
  refine x_get C hw iwX3 3 rfl 21 rfl 1 (by decide) kw432 rfl dX10_image_17 ?_
  refine lv_aload_n C.1 C.2.1 dX10_image_20 rfl (lv_at hl 0 rfl) ?_
  refine x_get C hw iwX10 9 rfl 0 rfl 1 (by decide) kw447 rfl dX10_image_21 ?_
  refine x_callvV (As := [.ref qs]) (rest := []) (wr := [(qx, .inr (9, [.ref qt, .ref qs, .ref qd, .ref qa, .ref qb, .ref qh, .ref qr, .ref qe, .ref qp, .ref qf, .ref qn, .ref qi, .ref qo, .int 0, .int 0, .int (-1), .int (-1)])), (qa, .inr (7, [.int 0, .int 0, .int 0, .int 0, .int 0, .int 0, .int 0, .int 0, .ref apictures, .ref ashown, .ref asighed])), (apictures, eI G 6 (fun _ => 0)), (ashown, eI G 6 (fun _ => 0)), (asighed, eI G 8 (fun _ => 0)), (qr, .inr (6, [.int 0, .int 0, .int 0, .ref rkeys, .ref rsigns, .ref rnumbers, .ref rstack])), (rkeys, eI G 40 (fun _ => 0)), (rsigns, eI G 40 (fun _ => 0)), (rnumbers, eI G 40 (fun _ => 0)), (rstack, eI G 40 (fun _ => 0)), (qi, eIm G 2 (va_up (va_up (fun _ => none) 0 (some i0)) 1 (some i1))), (i0, .inr (3, [.int 0, .ref i0s, .ref i0a, .ref i0r])), (i0a, .inr (7, [.int 0, .int 0, .int 0, .int 0, .int 0, .int 0, .int 0, .int 0, .ref i0apictures, .ref i0ashown, .ref i0asighed])), (i0apictures, eI G 6 (fun _ => 0)), (i0ashown, eI G 6 (fun _ => 0)), (i0asighed, eI G 8 (fun _ => 0)), (i0r, .inr (6, [.int 0, .int 0, .int 0, .ref i0rkeys, .ref i0rsigns, .ref i0rnumbers, .ref i0rstack])), (i0rkeys, eI G 40 (fun _ => 0)), (i0rsigns, eI G 40 (fun _ => 0)), (i0rnumbers, eI G 40 (fun _ => 0)), (i0rstack, eI G 40 (fun _ => 0))]) C hw (c_X5_copyFrom i0s qs 0 0 0 0 1 0 40 0 0 i0sslideNames i0spictures i0sheats i0safter i0shearerNames i0sneeds i0slikes i0shates i0snear (fun _ => 0) (fun _ => 0) (fun _ => 0) (fun _ => 0) (fun _ => 0) (fun _ => 0) (fun _ => 0) (fun _ => 0) (fun _ => 0) 0 0 0 0 1 0 40 0 0 sslideNames spictures sheats safter shearerNames sneeds slikes shates snear (fun _ => 0) (fun _ => 0) (fun _ => 0) (fun _ => 0) (fun _ => 0) (fun _ => 0) (fun _ => 0) (fun _ => 0) (fun _ => 0)) mwX5_copyFrom kw626 [22, 23, 24, 25, 26, 27, 28, 29, 30, 31, 1, 2, 3, 4, 5, 6, 7, 8, 9, 10] [0, 11, 12, 13, 14, 15, 16, 17, 18, 19, 20, 21, 32, 33, 34, 35, 36, 37, 38, 39, 40] rfl rfl rfl rfl (by decide) 0 rfl rfl rfl rfl hl.1 rfl (Nat.le_of_ble_eq_true rfl) ⟨(Nat.le_of_ble_eq_true rfl), (Nat.le_of_ble_eq_true rfl)⟩ ⟨(Nat.le_of_ble_eq_true rfl), (Nat.le_of_ble_eq_true rfl)⟩ dX10_image_24 (fun  u9 H locs hp9 hw => ?_)
  obtain rfl := hp9
  have hw : Wd G s A [(qx, .inr (9, [.ref qt, .ref qs, .ref qd, .ref qa, .ref qb, .ref qh, .ref qr, .ref qe, .ref qp, .ref qf, .ref qn, .ref qi, .ref qo, .int 0, .int 0, .int (-1), .int (-1)])), (qa, .inr (7, [.int 0, .int 0, .int 0, .int 0, .int 0, .int 0, .int 0, .int 0, .ref apictures, .ref ashown, .ref asighed])), (apictures, eI G 6 (fun _ => 0)), (ashown, eI G 6 (fun _ => 0)), (asighed, eI G 8 (fun _ => 0)), (qr, .inr (6, [.int 0, .int 0, .int 0, .ref rkeys, .ref rsigns, .ref rnumbers, .ref rstack])), (rkeys, eI G 40 (fun _ => 0)), (rsigns, eI G 40 (fun _ => 0)), (rnumbers, eI G 40 (fun _ => 0)), (rstack, eI G 40 (fun _ => 0)), (qi, eIm G 2 (va_up (va_up (fun _ => none) 0 (some i0)) 1 (some i1))), (i0, .inr (3, [.int 0, .ref i0s, .ref i0a, .ref i0r])), (i0a, .inr (7, [.int 0, .int 0, .int 0, .int 0, .int 0, .int 0, .int 0, .int 0, .ref i0apictures, .ref i0ashown, .ref i0asighed])), (i0apictures, eI G 6 (fun _ => 0)), (i0ashown, eI G 6 (fun _ => 0)), (i0asighed, eI G 8 (fun _ => 0)), (i0r, .inr (6, [.int 0, .int 0, .int 0, .ref i0rkeys, .ref i0rsigns, .ref i0rnumbers, .ref i0rstack])), (i0rkeys, eI G 40 (fun _ => 0)), (i0rsigns, eI G 40 (fun _ => 0)), (i0rnumbers, eI G 40 (fun _ => 0)), (i0rstack, eI G 40 (fun _ => 0)), (i0s, .inr (4, [.int 0, .int 0, .int 0, .int 0, .int 1, .int 0, .int 40, .int 0, .int 0, .ref i0sslideNames, .ref i0spictures, .ref i0sheats, .ref i0safter, .ref i0shearerNames, .ref i0sneeds, .ref i0slikes, .ref i0shates, .ref i0snear])), (i0sslideNames, eJ G 6 (va_cpy (fun _ => 0) (fun _ => 0) 0 0 6)), (i0spictures, eI G 6 (va_cpy (fun _ => 0) (fun _ => 0) 0 0 6)), (i0sheats, eI G 6 (va_cpy (fun _ => 0) (fun _ => 0) 0 0 6)), (i0safter, eI G 6 (va_cpy (fun _ => 0) (fun _ => 0) 0 0 6)), (i0shearerNames, eJ G 8 (va_cpy (fun _ => 0) (fun _ => 0) 0 0 8)), (i0sneeds, eI G 8 (va_cpy (fun _ => 0) (fun _ => 0) 0 0 8)), (i0slikes, eI G 8 (va_cpy (fun _ => 0) (fun _ => 0) 0 0 8)), (i0shates, eI G 8 (va_cpy (fun _ => 0) (fun _ => 0) 0 0 8)), (i0snear, eI G 8 (va_cpy (fun _ => 0) (fun _ => 0) 0 0 8)), (qs, .inr (4, [.int 0, .int 0, .int 0, .int 0, .int 1, .int 0, .int 40, .int 0, .int 0, .ref sslideNames, .ref spictures, .ref sheats, .ref safter, .ref shearerNames, .ref sneeds, .ref slikes, .ref shates, .ref snear])), (sslideNames, eJ G 6 (fun _ => 0)), (spictures, eI G 6 (fun _ => 0)), (sheats, eI G 6 (fun _ => 0)), (safter, eI G 6 (fun _ => 0)), (shearerNames, eJ G 8 (fun _ => 0)), (sneeds, eI G 8 (fun _ => 0)), (slikes, eI G 8 (fun _ => 0)), (shates, eI G 8 (fun _ => 0)), (snear, eI G 8 (fun _ => 0))] H _ := hw
  refine lv_aload_n C.1 C.2.1 dX10_image_27 rfl (lv_at hl 0 rfl) ?_
  refine x_get C hw iwX10 9 rfl 0 rfl 11 (by decide) kw457 rfl dX10_image_28 ?_
  refine lv_iload_n C.1 C.2.1 dX10_image_31 rfl (lv_at hl 1 rfl) ?_
  refine x_aldIm (b := i0) C hw 10 rfl (x_in rfl) rfl dX10_image_32 ?_
  refine x_get C hw iwX3 3 rfl 11 rfl 2 (by decide) kw434 rfl dX10_image_33 ?_
  refine lv_aload_n C.1 C.2.1 dX10_image_36 rfl (lv_at hl 0 rfl) ?_
  refine x_get C hw iwX10 9 rfl 0 rfl 3 (by decide) kw449 rfl dX10_image_37 ?_
  refine x_callvV (As := [.ref qa]) (rest := []) (wr := [(qx, .inr (9, [.ref qt, .ref qs, .ref qd, .ref qa, .ref qb, .ref qh, .ref qr, .ref qe, .ref qp, .ref qf, .ref qn, .ref qi, .ref qo, .int 0, .int 0, .int (-1), .int (-1)])), (qr, .inr (6, [.int 0, .int 0, .int 0, .ref rkeys, .ref rsigns, .ref rnumbers, .ref rstack])), (rkeys, eI G 40 (fun _ => 0)), (rsigns, eI G 40 (fun _ => 0)), (rnumbers, eI G 40 (fun _ => 0)), (rstack, eI G 40 (fun _ => 0)), (qi, eIm G 2 (va_up (va_up (fun _ => none) 0 (some i0)) 1 (some i1))), (i0, .inr (3, [.int 0, .ref i0s, .ref i0a, .ref i0r])), (i0r, .inr (6, [.int 0, .int 0, .int 0, .ref i0rkeys, .ref i0rsigns, .ref i0rnumbers, .ref i0rstack])), (i0rkeys, eI G 40 (fun _ => 0)), (i0rsigns, eI G 40 (fun _ => 0)), (i0rnumbers, eI G 40 (fun _ => 0)), (i0rstack, eI G 40 (fun _ => 0)), (i0s, .inr (4, [.int 0, .int 0, .int 0, .int 0, .int 1, .int 0, .int 40, .int 0, .int 0, .ref i0sslideNames, .ref i0spictures, .ref i0sheats, .ref i0safter, .ref i0shearerNames, .ref i0sneeds, .ref i0slikes, .ref i0shates, .ref i0snear])), (i0sslideNames, eJ G 6 (va_cpy (fun _ => 0) (fun _ => 0) 0 0 6)), (i0spictures, eI G 6 (va_cpy (fun _ => 0) (fun _ => 0) 0 0 6)), (i0sheats, eI G 6 (va_cpy (fun _ => 0) (fun _ => 0) 0 0 6)), (i0safter, eI G 6 (va_cpy (fun _ => 0) (fun _ => 0) 0 0 6)), (i0shearerNames, eJ G 8 (va_cpy (fun _ => 0) (fun _ => 0) 0 0 8)), (i0sneeds, eI G 8 (va_cpy (fun _ => 0) (fun _ => 0) 0 0 8)), (i0slikes, eI G 8 (va_cpy (fun _ => 0) (fun _ => 0) 0 0 8)), (i0shates, eI G 8 (va_cpy (fun _ => 0) (fun _ => 0) 0 0 8)), (i0snear, eI G 8 (va_cpy (fun _ => 0) (fun _ => 0) 0 0 8)), (qs, .inr (4, [.int 0, .int 0, .int 0, .int 0, .int 1, .int 0, .int 40, .int 0, .int 0, .ref sslideNames, .ref spictures, .ref sheats, .ref safter, .ref shearerNames, .ref sneeds, .ref slikes, .ref shates, .ref snear])), (sslideNames, eJ G 6 (fun _ => 0)), (spictures, eI G 6 (fun _ => 0)), (sheats, eI G 6 (fun _ => 0)), (safter, eI G 6 (fun _ => 0)), (shearerNames, eJ G 8 (fun _ => 0)), (sneeds, eI G 8 (fun _ => 0)), (slikes, eI G 8 (fun _ => 0)), (shates, eI G 8 (fun _ => 0)), (snear, eI G 8 (fun _ => 0))]) C hw (c_X8_copyFrom i0a qa 0 0 0 0 0 0 0 0 i0apictures i0ashown i0asighed (fun _ => 0) (fun _ => 0) (fun _ => 0) 0 0 0 0 0 0 0 0 apictures ashown asighed (fun _ => 0) (fun _ => 0) (fun _ => 0) isB0) mwX8_copyFrom kw690 [12, 13, 14, 15, 1, 2, 3, 4] [0, 5, 6, 7, 8, 9, 10, 11, 16, 17, 18, 19, 20, 21, 22, 23, 24, 25, 26, 27, 28, 29, 30, 31, 32, 33, 34, 35, 36, 37, 38, 39, 40] rfl rfl rfl rfl (by decide) 0 rfl rfl rfl rfl hl.1 rfl (Nat.le_of_ble_eq_true rfl) ⟨(Nat.le_of_ble_eq_true rfl), (Nat.le_of_ble_eq_true rfl)⟩ ⟨(Nat.le_of_ble_eq_true rfl), (Nat.le_of_ble_eq_true rfl)⟩ dX10_image_40 (fun  u9 H locs hp9 hw => ?_)
  obtain rfl := hp9
  have hw : Wd G s A [(qx, .inr (9, [.ref qt, .ref qs, .ref qd, .ref qa, .ref qb, .ref qh, .ref qr, .ref qe, .ref qp, .ref qf, .ref qn, .ref qi, .ref qo, .int 0, .int 0, .int (-1), .int (-1)])), (qr, .inr (6, [.int 0, .int 0, .int 0, .ref rkeys, .ref rsigns, .ref rnumbers, .ref rstack])), (rkeys, eI G 40 (fun _ => 0)), (rsigns, eI G 40 (fun _ => 0)), (rnumbers, eI G 40 (fun _ => 0)), (rstack, eI G 40 (fun _ => 0)), (qi, eIm G 2 (va_up (va_up (fun _ => none) 0 (some i0)) 1 (some i1))), (i0, .inr (3, [.int 0, .ref i0s, .ref i0a, .ref i0r])), (i0r, .inr (6, [.int 0, .int 0, .int 0, .ref i0rkeys, .ref i0rsigns, .ref i0rnumbers, .ref i0rstack])), (i0rkeys, eI G 40 (fun _ => 0)), (i0rsigns, eI G 40 (fun _ => 0)), (i0rnumbers, eI G 40 (fun _ => 0)), (i0rstack, eI G 40 (fun _ => 0)), (i0s, .inr (4, [.int 0, .int 0, .int 0, .int 0, .int 1, .int 0, .int 40, .int 0, .int 0, .ref i0sslideNames, .ref i0spictures, .ref i0sheats, .ref i0safter, .ref i0shearerNames, .ref i0sneeds, .ref i0slikes, .ref i0shates, .ref i0snear])), (i0sslideNames, eJ G 6 (va_cpy (fun _ => 0) (fun _ => 0) 0 0 6)), (i0spictures, eI G 6 (va_cpy (fun _ => 0) (fun _ => 0) 0 0 6)), (i0sheats, eI G 6 (va_cpy (fun _ => 0) (fun _ => 0) 0 0 6)), (i0safter, eI G 6 (va_cpy (fun _ => 0) (fun _ => 0) 0 0 6)), (i0shearerNames, eJ G 8 (va_cpy (fun _ => 0) (fun _ => 0) 0 0 8)), (i0sneeds, eI G 8 (va_cpy (fun _ => 0) (fun _ => 0) 0 0 8)), (i0slikes, eI G 8 (va_cpy (fun _ => 0) (fun _ => 0) 0 0 8)), (i0shates, eI G 8 (va_cpy (fun _ => 0) (fun _ => 0) 0 0 8)), (i0snear, eI G 8 (va_cpy (fun _ => 0) (fun _ => 0) 0 0 8)), (qs, .inr (4, [.int 0, .int 0, .int 0, .int 0, .int 1, .int 0, .int 40, .int 0, .int 0, .ref sslideNames, .ref spictures, .ref sheats, .ref safter, .ref shearerNames, .ref sneeds, .ref slikes, .ref shates, .ref snear])), (sslideNames, eJ G 6 (fun _ => 0)), (spictures, eI G 6 (fun _ => 0)), (sheats, eI G 6 (fun _ => 0)), (safter, eI G 6 (fun _ => 0)), (shearerNames, eJ G 8 (fun _ => 0)), (sneeds, eI G 8 (fun _ => 0)), (slikes, eI G 8 (fun _ => 0)), (shates, eI G 8 (fun _ => 0)), (snear, eI G 8 (fun _ => 0)), (i0a, .inr (7, [.int 0, .int 0, .int 0, .int 0, .int 0, .int 0, .int 0, .int 0, .ref i0apictures, .ref i0ashown, .ref i0asighed])), (i0apictures, eI G 6 (va_cpy (fun _ => 0) (fun _ => 0) 0 0 6)), (i0ashown, eI G 6 (va_cpy (fun _ => 0) (fun _ => 0) 0 0 6)), (i0asighed, eI G 8 (va_cpy (fun _ => 0) (fun _ => 0) 0 0 8)), (qa, .inr (7, [.int 0, .int 0, .int 0, .int 0, .int 0, .int 0, .int 0, .int 0, .ref apictures, .ref ashown, .ref asighed])), (apictures, eI G 6 (fun _ => 0)), (ashown, eI G 6 (fun _ => 0)), (asighed, eI G 8 (fun _ => 0))] H _ := hw
  refine lv_aload_n C.1 C.2.1 dX10_image_43 rfl (lv_at hl 0 rfl) ?_
  refine x_get C hw iwX10 9 rfl 0 rfl 11 (by decide) kw457 rfl dX10_image_44 ?_
  refine lv_iload_n C.1 C.2.1 dX10_image_47 rfl (lv_at hl 1 rfl) ?_
  refine x_aldIm (b := i0) C hw 6 rfl (x_in rfl) rfl dX10_image_48 ?_
  refine x_get C hw iwX3 3 rfl 7 rfl 3 (by decide) kw436 rfl dX10_image_49 ?_
  refine lv_aload_n C.1 C.2.1 dX10_image_52 rfl (lv_at hl 0 rfl) ?_
  refine x_get C hw iwX10 9 rfl 0 rfl 6 (by decide) kw452 rfl dX10_image_53 ?_
  refine x_callvV (As := [.ref qr]) (rest := []) (wr := [(qx, .inr (9, [.ref qt, .ref qs, .ref qd, .ref qa, .ref qb, .ref qh, .ref qr, .ref qe, .ref qp, .ref qf, .ref qn, .ref qi, .ref qo, .int 0, .int 0, .int (-1), .int (-1)])), (qi, eIm G 2 (va_up (va_up (fun _ => none) 0 (some i0)) 1 (some i1))), (i0, .inr (3, [.int 0, .ref i0s, .ref i0a, .ref i0r])), (i0s, .inr (4, [.int 0, .int 0, .int 0, .int 0, .int 1, .int 0, .int 40, .int 0, .int 0, .ref i0sslideNames, .ref i0spictures, .ref i0sheats, .ref i0safter, .ref i0shearerNames, .ref i0sneeds, .ref i0slikes, .ref i0shates, .ref i0snear])), (i0sslideNames, eJ G 6 (va_cpy (fun _ => 0) (fun _ => 0) 0 0 6)), (i0spictures, eI G 6 (va_cpy (fun _ => 0) (fun _ => 0) 0 0 6)), (i0sheats, eI G 6 (va_cpy (fun _ => 0) (fun _ => 0) 0 0 6)), (i0safter, eI G 6 (va_cpy (fun _ => 0) (fun _ => 0) 0 0 6)), (i0shearerNames, eJ G 8 (va_cpy (fun _ => 0) (fun _ => 0) 0 0 8)), (i0sneeds, eI G 8 (va_cpy (fun _ => 0) (fun _ => 0) 0 0 8)), (i0slikes, eI G 8 (va_cpy (fun _ => 0) (fun _ => 0) 0 0 8)), (i0shates, eI G 8 (va_cpy (fun _ => 0) (fun _ => 0) 0 0 8)), (i0snear, eI G 8 (va_cpy (fun _ => 0) (fun _ => 0) 0 0 8)), (qs, .inr (4, [.int 0, .int 0, .int 0, .int 0, .int 1, .int 0, .int 40, .int 0, .int 0, .ref sslideNames, .ref spictures, .ref sheats, .ref safter, .ref shearerNames, .ref sneeds, .ref slikes, .ref shates, .ref snear])), (sslideNames, eJ G 6 (fun _ => 0)), (spictures, eI G 6 (fun _ => 0)), (sheats, eI G 6 (fun _ => 0)), (safter, eI G 6 (fun _ => 0)), (shearerNames, eJ G 8 (fun _ => 0)), (sneeds, eI G 8 (fun _ => 0)), (slikes, eI G 8 (fun _ => 0)), (shates, eI G 8 (fun _ => 0)), (snear, eI G 8 (fun _ => 0)), (i0a, .inr (7, [.int 0, .int 0, .int 0, .int 0, .int 0, .int 0, .int 0, .int 0, .ref i0apictures, .ref i0ashown, .ref i0asighed])), (i0apictures, eI G 6 (va_cpy (fun _ => 0) (fun _ => 0) 0 0 6)), (i0ashown, eI G 6 (va_cpy (fun _ => 0) (fun _ => 0) 0 0 6)), (i0asighed, eI G 8 (va_cpy (fun _ => 0) (fun _ => 0) 0 0 8)), (qa, .inr (7, [.int 0, .int 0, .int 0, .int 0, .int 0, .int 0, .int 0, .int 0, .ref apictures, .ref ashown, .ref asighed])), (apictures, eI G 6 (fun _ => 0)), (ashown, eI G 6 (fun _ => 0)), (asighed, eI G 8 (fun _ => 0))]) C hw (c_X7_copyFrom i0r qr 0 0 0 i0rkeys i0rsigns i0rnumbers i0rstack (fun _ => 0) (fun _ => 0) (fun _ => 0) (fun _ => 0) 0 0 0 rkeys rsigns rnumbers rstack (fun _ => 0) (fun _ => 0) (fun _ => 0) (fun _ => 0) isB0) mwX7_copyFrom kw1049 [8, 9, 10, 11, 12, 1, 2, 3, 4, 5] [0, 6, 7, 13, 14, 15, 16, 17, 18, 19, 20, 21, 22, 23, 24, 25, 26, 27, 28, 29, 30, 31, 32, 33, 34, 35, 36, 37, 38, 39, 40] rfl rfl rfl rfl (by decide) 0 rfl rfl rfl rfl hl.1 rfl (Nat.le_of_ble_eq_true rfl) ⟨(Nat.le_of_ble_eq_true rfl), (Nat.le_of_ble_eq_true rfl)⟩ ⟨(Nat.le_of_ble_eq_true rfl), (Nat.le_of_ble_eq_true rfl)⟩ dX10_image_56 (fun  u9 H locs hp9 hw => ?_)
  obtain rfl := hp9
  have hw : Wd G s A [(qx, .inr (9, [.ref qt, .ref qs, .ref qd, .ref qa, .ref qb, .ref qh, .ref qr, .ref qe, .ref qp, .ref qf, .ref qn, .ref qi, .ref qo, .int 0, .int 0, .int (-1), .int (-1)])), (qi, eIm G 2 (va_up (va_up (fun _ => none) 0 (some i0)) 1 (some i1))), (i0, .inr (3, [.int 0, .ref i0s, .ref i0a, .ref i0r])), (i0s, .inr (4, [.int 0, .int 0, .int 0, .int 0, .int 1, .int 0, .int 40, .int 0, .int 0, .ref i0sslideNames, .ref i0spictures, .ref i0sheats, .ref i0safter, .ref i0shearerNames, .ref i0sneeds, .ref i0slikes, .ref i0shates, .ref i0snear])), (i0sslideNames, eJ G 6 (va_cpy (fun _ => 0) (fun _ => 0) 0 0 6)), (i0spictures, eI G 6 (va_cpy (fun _ => 0) (fun _ => 0) 0 0 6)), (i0sheats, eI G 6 (va_cpy (fun _ => 0) (fun _ => 0) 0 0 6)), (i0safter, eI G 6 (va_cpy (fun _ => 0) (fun _ => 0) 0 0 6)), (i0shearerNames, eJ G 8 (va_cpy (fun _ => 0) (fun _ => 0) 0 0 8)), (i0sneeds, eI G 8 (va_cpy (fun _ => 0) (fun _ => 0) 0 0 8)), (i0slikes, eI G 8 (va_cpy (fun _ => 0) (fun _ => 0) 0 0 8)), (i0shates, eI G 8 (va_cpy (fun _ => 0) (fun _ => 0) 0 0 8)), (i0snear, eI G 8 (va_cpy (fun _ => 0) (fun _ => 0) 0 0 8)), (qs, .inr (4, [.int 0, .int 0, .int 0, .int 0, .int 1, .int 0, .int 40, .int 0, .int 0, .ref sslideNames, .ref spictures, .ref sheats, .ref safter, .ref shearerNames, .ref sneeds, .ref slikes, .ref shates, .ref snear])), (sslideNames, eJ G 6 (fun _ => 0)), (spictures, eI G 6 (fun _ => 0)), (sheats, eI G 6 (fun _ => 0)), (safter, eI G 6 (fun _ => 0)), (shearerNames, eJ G 8 (fun _ => 0)), (sneeds, eI G 8 (fun _ => 0)), (slikes, eI G 8 (fun _ => 0)), (shates, eI G 8 (fun _ => 0)), (snear, eI G 8 (fun _ => 0)), (i0a, .inr (7, [.int 0, .int 0, .int 0, .int 0, .int 0, .int 0, .int 0, .int 0, .ref i0apictures, .ref i0ashown, .ref i0asighed])), (i0apictures, eI G 6 (va_cpy (fun _ => 0) (fun _ => 0) 0 0 6)), (i0ashown, eI G 6 (va_cpy (fun _ => 0) (fun _ => 0) 0 0 6)), (i0asighed, eI G 8 (va_cpy (fun _ => 0) (fun _ => 0) 0 0 8)), (qa, .inr (7, [.int 0, .int 0, .int 0, .int 0, .int 0, .int 0, .int 0, .int 0, .ref apictures, .ref ashown, .ref asighed])), (apictures, eI G 6 (fun _ => 0)), (ashown, eI G 6 (fun _ => 0)), (asighed, eI G 8 (fun _ => 0)), (i0r, .inr (6, [.int 0, .int 0, .int 0, .ref i0rkeys, .ref i0rsigns, .ref i0rnumbers, .ref i0rstack])), (i0rkeys, eI G 40 (va_cpy (fun _ => 0) (fun _ => 0) 0 0 40)), (i0rsigns, eI G 40 (va_cpy (fun _ => 0) (fun _ => 0) 0 0 40)), (i0rnumbers, eI G 40 (va_cpy (fun _ => 0) (fun _ => 0) 0 0 40)), (i0rstack, eI G 40 (fun _ => 0)), (qr, .inr (6, [.int 0, .int 0, .int 0, .ref rkeys, .ref rsigns, .ref rnumbers, .ref rstack])), (rkeys, eI G 40 (fun _ => 0)), (rsigns, eI G 40 (fun _ => 0)), (rnumbers, eI G 40 (fun _ => 0)), (rstack, eI G 40 (fun _ => 0))] H _ := hw
  refine lv_aload_n C.1 C.2.1 dX10_image_59 rfl (lv_at hl 0 rfl) ?_
  refine x_get C hw iwX10 9 rfl 0 rfl 11 (by decide) kw457 rfl dX10_image_60 ?_
  refine lv_iload_n C.1 C.2.1 dX10_image_63 rfl (lv_at hl 1 rfl) ?_
  refine x_aldIm (b := i0) C hw 1 rfl (x_in rfl) rfl dX10_image_64 ?_
  refine lv_iconst (v := 1) C.1 C.2.1 dX10_image_65 (by decide) ?_
  refine x_put (w' := [(qx, .inr (9, [.ref qt, .ref qs, .ref qd, .ref qa, .ref qb, .ref qh, .ref qr, .ref qe, .ref qp, .ref qf, .ref qn, .ref qi, .ref qo, .int 0, .int 0, .int (-1), .int (-1)])), (qi, eIm G 2 (va_up (va_up (fun _ => none) 0 (some i0)) 1 (some i1))), (i0, .inr (3, [.int 1, .ref i0s, .ref i0a, .ref i0r])), (i0s, .inr (4, [.int 0, .int 0, .int 0, .int 0, .int 1, .int 0, .int 40, .int 0, .int 0, .ref i0sslideNames, .ref i0spictures, .ref i0sheats, .ref i0safter, .ref i0shearerNames, .ref i0sneeds, .ref i0slikes, .ref i0shates, .ref i0snear])), (i0sslideNames, eJ G 6 (va_cpy (fun _ => 0) (fun _ => 0) 0 0 6)), (i0spictures, eI G 6 (va_cpy (fun _ => 0) (fun _ => 0) 0 0 6)), (i0sheats, eI G 6 (va_cpy (fun _ => 0) (fun _ => 0) 0 0 6)), (i0safter, eI G 6 (va_cpy (fun _ => 0) (fun _ => 0) 0 0 6)), (i0shearerNames, eJ G 8 (va_cpy (fun _ => 0) (fun _ => 0) 0 0 8)), (i0sneeds, eI G 8 (va_cpy (fun _ => 0) (fun _ => 0) 0 0 8)), (i0slikes, eI G 8 (va_cpy (fun _ => 0) (fun _ => 0) 0 0 8)), (i0shates, eI G 8 (va_cpy (fun _ => 0) (fun _ => 0) 0 0 8)), (i0snear, eI G 8 (va_cpy (fun _ => 0) (fun _ => 0) 0 0 8)), (qs, .inr (4, [.int 0, .int 0, .int 0, .int 0, .int 1, .int 0, .int 40, .int 0, .int 0, .ref sslideNames, .ref spictures, .ref sheats, .ref safter, .ref shearerNames, .ref sneeds, .ref slikes, .ref shates, .ref snear])), (sslideNames, eJ G 6 (fun _ => 0)), (spictures, eI G 6 (fun _ => 0)), (sheats, eI G 6 (fun _ => 0)), (safter, eI G 6 (fun _ => 0)), (shearerNames, eJ G 8 (fun _ => 0)), (sneeds, eI G 8 (fun _ => 0)), (slikes, eI G 8 (fun _ => 0)), (shates, eI G 8 (fun _ => 0)), (snear, eI G 8 (fun _ => 0)), (i0a, .inr (7, [.int 0, .int 0, .int 0, .int 0, .int 0, .int 0, .int 0, .int 0, .ref i0apictures, .ref i0ashown, .ref i0asighed])), (i0apictures, eI G 6 (va_cpy (fun _ => 0) (fun _ => 0) 0 0 6)), (i0ashown, eI G 6 (va_cpy (fun _ => 0) (fun _ => 0) 0 0 6)), (i0asighed, eI G 8 (va_cpy (fun _ => 0) (fun _ => 0) 0 0 8)), (qa, .inr (7, [.int 0, .int 0, .int 0, .int 0, .int 0, .int 0, .int 0, .int 0, .ref apictures, .ref ashown, .ref asighed])), (apictures, eI G 6 (fun _ => 0)), (ashown, eI G 6 (fun _ => 0)), (asighed, eI G 8 (fun _ => 0)), (i0r, .inr (6, [.int 0, .int 0, .int 0, .ref i0rkeys, .ref i0rsigns, .ref i0rnumbers, .ref i0rstack])), (i0rkeys, eI G 40 (va_cpy (fun _ => 0) (fun _ => 0) 0 0 40)), (i0rsigns, eI G 40 (va_cpy (fun _ => 0) (fun _ => 0) 0 0 40)), (i0rnumbers, eI G 40 (va_cpy (fun _ => 0) (fun _ => 0) 0 0 40)), (i0rstack, eI G 40 (fun _ => 0)), (qr, .inr (6, [.int 0, .int 0, .int 0, .ref rkeys, .ref rsigns, .ref rnumbers, .ref rstack])), (rkeys, eI G 40 (fun _ => 0)), (rsigns, eI G 40 (fun _ => 0)), (rnumbers, eI G 40 (fun _ => 0)), (rstack, eI G 40 (fun _ => 0))]) C hw iwX3 tyX3_ok nmX3 3 rfl 2 rfl 0 (by decide) kw430 rfl (by first | rfl | decide) rfl (Nat.le_of_ble_eq_true rfl) rfl dX10_image_66 (fun H locs hw => ?_)
  refine lv_iconst (v := 1) C.1 C.2.1 dX10_image_69 (by decide) ?_
  have hw := hw.sub (w' := []) [] rfl rfl
  exact x_retz B hw rfl ⟨rfl, rfl⟩ (Nat.le_of_ble_eq_true rfl) (Nat.le_of_ble_eq_true rfl) dX10_image_70
theorem dX10_restore_0 : decode cX10_restore 0 = .ok (.iload_n 1, 1) := by decide +kernel
theorem dX10_restore_1 : decode cX10_restore 1 = .ok (.ifCond .lt 20, 3) := by decide +kernel
theorem dX10_restore_4 : decode cX10_restore 4 = .ok (.iload_n 1, 1) := by decide +kernel
theorem dX10_restore_5 : decode cX10_restore 5 = .ok (.iconst 2, 1) := by decide +kernel
theorem dX10_restore_6 : decode cX10_restore 6 = .ok (.if_icmp .ge 15, 3) := by decide +kernel
theorem dX10_restore_9 : decode cX10_restore 9 = .ok (.aload_n 0, 1) := by decide +kernel
theorem dX10_restore_10 : decode cX10_restore 10 = .ok (.getfield 76, 3) := by decide +kernel
theorem dX10_restore_13 : decode cX10_restore 13 = .ok (.iload_n 1, 1) := by decide +kernel
theorem dX10_restore_14 : decode cX10_restore 14 = .ok (.aaload, 1) := by decide +kernel
theorem dX10_restore_15 : decode cX10_restore 15 = .ok (.getfield 338, 3) := by decide +kernel
theorem dX10_restore_18 : decode cX10_restore 18 = .ok (.ifCond .ne 5, 3) := by decide +kernel
theorem dX10_restore_21 : decode cX10_restore 21 = .ok (.iconst 0, 1) := by decide +kernel
theorem dX10_restore_22 : decode cX10_restore 22 = .ok (.ireturn, 1) := by decide +kernel
set_option maxHeartbeats 4000000 in
set_option maxRecDepth 100000 in
theorem c_X10_restore__0 {l : Launch} {G : Gc} (qx : Nat) (qt : Nat) (qs : Nat) (qd : Nat) (qa : Nat) (qb : Nat) (qh : Nat) (qr : Nat) (qe : Nat) (qp : Nat) (qf : Nat) (qn : Nat) (qi : Nat) (qo : Nat) (i0 : Nat) (i0s : Nat) (i0a : Nat) (i0r : Nat) (i1 : Nat)  : Ci l yX10_restore cX10_restore 2 (some .boolean) 1 0 0 G [.ref qx, .int 0] [(qx, .inr (9, [.ref qt, .ref qs, .ref qd, .ref qa, .ref qb, .ref qh, .ref qr, .ref qe, .ref qp, .ref qf, .ref qn, .ref qi, .ref qo, .int 0, .int 0, .int (-1), .int (-1)])), (qi, eIm G 2 (va_up (va_up (fun _ => none) 0 (some i0)) 1 (some i1))), (i0, .inr (3, [.int 0, .ref i0s, .ref i0a, .ref i0r]))] (fun (r9 : Int32) (u9 : va_W) => r9 = 0 ∧ u9 = []) := by
  refine Ci.of (by decide) (Nat.le_of_ble_eq_true rfl) ?_
  intro p e s m below meth c ls A B hw hl
  have C : CallFix p m c cX10_restore 2 s _ gw "LanternState" := B.1
  have hl : lv_has ls 2 [(0, .ref qx), (1, .int 0)] := hl
  refine lv_iload_n C.1 C.2.1 dX10_restore_0 rfl (lv_at hl 1 rfl) ?_
  refine lv_if_lt (tgt := 21) C.1 C.2.1 dX10_restore_1 (by decide) (fun h9 => absurd h9 (by decide)) (fun _ => ?_)
  refine lv_iload_n C.1 C.2.1 dX10_restore_4 rfl (lv_at hl 1 rfl) ?_
  refine lv_iconst (v := 2) C.1 C.2.1 dX10_restore_5 (by decide) ?_
  refine lv_icmp_ge (tgt := 21) C.1 C.2.1 dX10_restore_6 (by decide) (fun h9 => absurd h9 (by decide)) (fun _ => ?_)
  refine lv_aload_n C.1 C.2.1 dX10_restore_9 rfl (lv_at hl 0 rfl) ?_
  refine x_get C hw iwX10 9 rfl 0 rfl 11 (by decide) kw457 rfl dX10_restore_10 ?_
  refine lv_iload_n C.1 C.2.1 dX10_restore_13 rfl (lv_at hl 1 rfl) ?_
  refine x_aldIm (b := i0) C hw 1 rfl (x_in rfl) rfl dX10_restore_14 ?_
  refine x_get C hw iwX3 3 rfl 2 rfl 0 (by decide) kw430 rfl dX10_restore_15 ?_
  refine lv_if_ne (tgt := 23) C.1 C.2.1 dX10_restore_18 (by decide) (fun h9 => absurd (by decide) h9) (fun _ => ?_)
  refine lv_iconst (v := 0) C.1 C.2.1 dX10_restore_21 (by decide) ?_
  have hw := hw.sub (w' := []) [] rfl rfl
  exact x_retz B hw rfl ⟨rfl, rfl⟩ (Nat.le_of_ble_eq_true rfl) (Nat.le_of_ble_eq_true rfl) dX10_restore_22
set_option maxHeartbeats 4000000 in
set_option maxRecDepth 100000 in
theorem c_X10_image__1 {l : Launch} {G : Gc} (qx : Nat) (qt : Nat) (qs : Nat) (qd : Nat) (qa : Nat) (qb : Nat) (qh : Nat) (qr : Nat) (qe : Nat) (qp : Nat) (qf : Nat) (qn : Nat) (qi : Nat) (qo : Nat) (sslideNames : Nat) (spictures : Nat) (sheats : Nat) (safter : Nat) (shearerNames : Nat) (sneeds : Nat) (slikes : Nat) (shates : Nat) (snear : Nat) (apictures : Nat) (ashown : Nat) (asighed : Nat) (rkeys : Nat) (rsigns : Nat) (rnumbers : Nat) (rstack : Nat) (i1 : Nat) (i1s : Nat) (i1a : Nat) (i1r : Nat) (i1sslideNames : Nat) (i1spictures : Nat) (i1sheats : Nat) (i1safter : Nat) (i1shearerNames : Nat) (i1sneeds : Nat) (i1slikes : Nat) (i1shates : Nat) (i1snear : Nat) (i1apictures : Nat) (i1ashown : Nat) (i1asighed : Nat) (i1rkeys : Nat) (i1rsigns : Nat) (i1rnumbers : Nat) (i1rstack : Nat) (i0 : Nat)  : Ci l yX10_image cX10_image 2 (some .boolean) 3 0 0 G [.ref qx, .int 1] [(qx, .inr (9, [.ref qt, .ref qs, .ref qd, .ref qa, .ref qb, .ref qh, .ref qr, .ref qe, .ref qp, .ref qf, .ref qn, .ref qi, .ref qo, .int 0, .int 0, .int (-1), .int (-1)])), (qs, .inr (4, [.int 0, .int 0, .int 0, .int 0, .int 1, .int 0, .int 40, .int 0, .int 0, .ref sslideNames, .ref spictures, .ref sheats, .ref safter, .ref shearerNames, .ref sneeds, .ref slikes, .ref shates, .ref snear])), (sslideNames, eJ G 6 (fun _ => 0)), (spictures, eI G 6 (fun _ => 0)), (sheats, eI G 6 (fun _ => 0)), (safter, eI G 6 (fun _ => 0)), (shearerNames, eJ G 8 (fun _ => 0)), (sneeds, eI G 8 (fun _ => 0)), (slikes, eI G 8 (fun _ => 0)), (shates, eI G 8 (fun _ => 0)), (snear, eI G 8 (fun _ => 0)), (qa, .inr (7, [.int 0, .int 0, .int 0, .int 0, .int 0, .int 0, .int 0, .int 0, .ref apictures, .ref ashown, .ref asighed])), (apictures, eI G 6 (fun _ => 0)), (ashown, eI G 6 (fun _ => 0)), (asighed, eI G 8 (fun _ => 0)), (qr, .inr (6, [.int 0, .int 0, .int 0, .ref rkeys, .ref rsigns, .ref rnumbers, .ref rstack])), (rkeys, eI G 40 (fun _ => 0)), (rsigns, eI G 40 (fun _ => 0)), (rnumbers, eI G 40 (fun _ => 0)), (rstack, eI G 40 (fun _ => 0)), (qi, eIm G 2 (va_up (va_up (fun _ => none) 0 (some i0)) 1 (some i1))), (i1, .inr (3, [.int 0, .ref i1s, .ref i1a, .ref i1r])), (i1s, .inr (4, [.int 0, .int 0, .int 0, .int 0, .int 1, .int 0, .int 40, .int 0, .int 0, .ref i1sslideNames, .ref i1spictures, .ref i1sheats, .ref i1safter, .ref i1shearerNames, .ref i1sneeds, .ref i1slikes, .ref i1shates, .ref i1snear])), (i1sslideNames, eJ G 6 (fun _ => 0)), (i1spictures, eI G 6 (fun _ => 0)), (i1sheats, eI G 6 (fun _ => 0)), (i1safter, eI G 6 (fun _ => 0)), (i1shearerNames, eJ G 8 (fun _ => 0)), (i1sneeds, eI G 8 (fun _ => 0)), (i1slikes, eI G 8 (fun _ => 0)), (i1shates, eI G 8 (fun _ => 0)), (i1snear, eI G 8 (fun _ => 0)), (i1a, .inr (7, [.int 0, .int 0, .int 0, .int 0, .int 0, .int 0, .int 0, .int 0, .ref i1apictures, .ref i1ashown, .ref i1asighed])), (i1apictures, eI G 6 (fun _ => 0)), (i1ashown, eI G 6 (fun _ => 0)), (i1asighed, eI G 8 (fun _ => 0)), (i1r, .inr (6, [.int 0, .int 0, .int 0, .ref i1rkeys, .ref i1rsigns, .ref i1rnumbers, .ref i1rstack])), (i1rkeys, eI G 40 (fun _ => 0)), (i1rsigns, eI G 40 (fun _ => 0)), (i1rnumbers, eI G 40 (fun _ => 0)), (i1rstack, eI G 40 (fun _ => 0))] (fun (r9 : Int32) (u9 : va_W) => r9 = 1 ∧ u9 = []) := by
  refine Ci.of (by decide) (Nat.le_of_ble_eq_true rfl) ?_
  intro p e s m below meth c ls A B hw hl
  have C : CallFix p m c cX10_image 2 s _ gw "LanternState" := B.1
  have hl : lv_has ls 2 [(0, .ref qx), (1, .int 1)] := hl
  refine lv_iload_n C.1 C.2.1 dX10_image_0 rfl (lv_at hl 1 rfl) ?_
  refine lv_if_lt (tgt := 9) C.1 C.2.1 dX10_image_1 (by decide) (fun h9 => absurd h9 (by decide)) (fun _ => ?_)
  refine lv_iload_n C.1 C.2.1 dX10_image_4 rfl (lv_at hl 1 rfl) ?_
  refine lv_iconst (v := 2) C.1 C.2.1 dX10_image_5 (by decide) ?_
  refine lv_icmp_lt (tgt := 11) C.1 C.2.1 dX10_image_6 (by decide) (fun _ => ?_) (fun h9 => absurd (by decide) h9)
  refine lv_aload_n C.1 C.2.1 dX10_image_11 rfl (lv_at hl 0 rfl) ?_
  refine x_get C hw iwX10 9 rfl 0 rfl 11 (by decide) kw457 rfl dX10_image_12 ?_
  refine lv_iload_n C.1 C.2.1 dX10_image_15 rfl (lv_at hl 1 rfl) ?_
  refine x_aldIm (b := i1) C hw 20 rfl (x_in rfl) rfl dX10_image_16 ?_
  refine x_get C hw iwX3 3 rfl 21 rfl 1 (by decide) kw432 rfl dX10_image_17 ?_
  refine lv_aload_n C.1 C.2.1 dX10_image_20 rfl (lv_at hl 0 rfl) ?_
  refine x_get C hw iwX10 9 rfl 0 rfl 1 (by decide) kw447 rfl dX10_image_21 ?_
  refine x_callvV (As := [.ref qs]) (rest := []) (wr := [(qx, .inr (9, [.ref qt, .ref qs, .ref qd, .ref qa, .ref qb, .ref qh, .ref qr, .ref qe, .ref qp, .ref qf, .ref qn, .ref qi, .ref qo, .int 0, .int 0, .int (-1), .int (-1)])), (qa, .inr (7, [.int 0, .int 0, .int 0, .int 0, .int 0, .int 0, .int 0, .int 0, .ref apictures, .ref ashown, .ref asighed])), (apictures, eI G 6 (fun _ => 0)), (ashown, eI G 6 (fun _ => 0)), (asighed, eI G 8 (fun _ => 0)), (qr, .inr (6, [.int 0, .int 0, .int 0, .ref rkeys, .ref rsigns, .ref rnumbers, .ref rstack])), (rkeys, eI G 40 (fun _ => 0)), (rsigns, eI G 40 (fun _ => 0)), (rnumbers, eI G 40 (fun _ => 0)), (rstack, eI G 40 (fun _ => 0)), (qi, eIm G 2 (va_up (va_up (fun _ => none) 0 (some i0)) 1 (some i1))), (i1, .inr (3, [.int 0, .ref i1s, .ref i1a, .ref i1r])), (i1a, .inr (7, [.int 0, .int 0, .int 0, .int 0, .int 0, .int 0, .int 0, .int 0, .ref i1apictures, .ref i1ashown, .ref i1asighed])), (i1apictures, eI G 6 (fun _ => 0)), (i1ashown, eI G 6 (fun _ => 0)), (i1asighed, eI G 8 (fun _ => 0)), (i1r, .inr (6, [.int 0, .int 0, .int 0, .ref i1rkeys, .ref i1rsigns, .ref i1rnumbers, .ref i1rstack])), (i1rkeys, eI G 40 (fun _ => 0)), (i1rsigns, eI G 40 (fun _ => 0)), (i1rnumbers, eI G 40 (fun _ => 0)), (i1rstack, eI G 40 (fun _ => 0))]) C hw (c_X5_copyFrom i1s qs 0 0 0 0 1 0 40 0 0 i1sslideNames i1spictures i1sheats i1safter i1shearerNames i1sneeds i1slikes i1shates i1snear (fun _ => 0) (fun _ => 0) (fun _ => 0) (fun _ => 0) (fun _ => 0) (fun _ => 0) (fun _ => 0) (fun _ => 0) (fun _ => 0) 0 0 0 0 1 0 40 0 0 sslideNames spictures sheats safter shearerNames sneeds slikes shates snear (fun _ => 0) (fun _ => 0) (fun _ => 0) (fun _ => 0) (fun _ => 0) (fun _ => 0) (fun _ => 0) (fun _ => 0) (fun _ => 0)) mwX5_copyFrom kw626 [22, 23, 24, 25, 26, 27, 28, 29, 30, 31, 1, 2, 3, 4, 5, 6, 7, 8, 9, 10] [0, 11, 12, 13, 14, 15, 16, 17, 18, 19, 20, 21, 32, 33, 34, 35, 36, 37, 38, 39, 40] rfl rfl rfl rfl (by decide) 0 rfl rfl rfl rfl hl.1 rfl (Nat.le_of_ble_eq_true rfl) ⟨(Nat.le_of_ble_eq_true rfl), (Nat.le_of_ble_eq_true rfl)⟩ ⟨(Nat.le_of_ble_eq_true rfl), (Nat.le_of_ble_eq_true rfl)⟩ dX10_image_24 (fun  u9 H locs hp9 hw => ?_)
  obtain rfl := hp9
  have hw : Wd G s A [(qx, .inr (9, [.ref qt, .ref qs, .ref qd, .ref qa, .ref qb, .ref qh, .ref qr, .ref qe, .ref qp, .ref qf, .ref qn, .ref qi, .ref qo, .int 0, .int 0, .int (-1), .int (-1)])), (qa, .inr (7, [.int 0, .int 0, .int 0, .int 0, .int 0, .int 0, .int 0, .int 0, .ref apictures, .ref ashown, .ref asighed])), (apictures, eI G 6 (fun _ => 0)), (ashown, eI G 6 (fun _ => 0)), (asighed, eI G 8 (fun _ => 0)), (qr, .inr (6, [.int 0, .int 0, .int 0, .ref rkeys, .ref rsigns, .ref rnumbers, .ref rstack])), (rkeys, eI G 40 (fun _ => 0)), (rsigns, eI G 40 (fun _ => 0)), (rnumbers, eI G 40 (fun _ => 0)), (rstack, eI G 40 (fun _ => 0)), (qi, eIm G 2 (va_up (va_up (fun _ => none) 0 (some i0)) 1 (some i1))), (i1, .inr (3, [.int 0, .ref i1s, .ref i1a, .ref i1r])), (i1a, .inr (7, [.int 0, .int 0, .int 0, .int 0, .int 0, .int 0, .int 0, .int 0, .ref i1apictures, .ref i1ashown, .ref i1asighed])), (i1apictures, eI G 6 (fun _ => 0)), (i1ashown, eI G 6 (fun _ => 0)), (i1asighed, eI G 8 (fun _ => 0)), (i1r, .inr (6, [.int 0, .int 0, .int 0, .ref i1rkeys, .ref i1rsigns, .ref i1rnumbers, .ref i1rstack])), (i1rkeys, eI G 40 (fun _ => 0)), (i1rsigns, eI G 40 (fun _ => 0)), (i1rnumbers, eI G 40 (fun _ => 0)), (i1rstack, eI G 40 (fun _ => 0)), (i1s, .inr (4, [.int 0, .int 0, .int 0, .int 0, .int 1, .int 0, .int 40, .int 0, .int 0, .ref i1sslideNames, .ref i1spictures, .ref i1sheats, .ref i1safter, .ref i1shearerNames, .ref i1sneeds, .ref i1slikes, .ref i1shates, .ref i1snear])), (i1sslideNames, eJ G 6 (va_cpy (fun _ => 0) (fun _ => 0) 0 0 6)), (i1spictures, eI G 6 (va_cpy (fun _ => 0) (fun _ => 0) 0 0 6)), (i1sheats, eI G 6 (va_cpy (fun _ => 0) (fun _ => 0) 0 0 6)), (i1safter, eI G 6 (va_cpy (fun _ => 0) (fun _ => 0) 0 0 6)), (i1shearerNames, eJ G 8 (va_cpy (fun _ => 0) (fun _ => 0) 0 0 8)), (i1sneeds, eI G 8 (va_cpy (fun _ => 0) (fun _ => 0) 0 0 8)), (i1slikes, eI G 8 (va_cpy (fun _ => 0) (fun _ => 0) 0 0 8)), (i1shates, eI G 8 (va_cpy (fun _ => 0) (fun _ => 0) 0 0 8)), (i1snear, eI G 8 (va_cpy (fun _ => 0) (fun _ => 0) 0 0 8)), (qs, .inr (4, [.int 0, .int 0, .int 0, .int 0, .int 1, .int 0, .int 40, .int 0, .int 0, .ref sslideNames, .ref spictures, .ref sheats, .ref safter, .ref shearerNames, .ref sneeds, .ref slikes, .ref shates, .ref snear])), (sslideNames, eJ G 6 (fun _ => 0)), (spictures, eI G 6 (fun _ => 0)), (sheats, eI G 6 (fun _ => 0)), (safter, eI G 6 (fun _ => 0)), (shearerNames, eJ G 8 (fun _ => 0)), (sneeds, eI G 8 (fun _ => 0)), (slikes, eI G 8 (fun _ => 0)), (shates, eI G 8 (fun _ => 0)), (snear, eI G 8 (fun _ => 0))] H _ := hw
  refine lv_aload_n C.1 C.2.1 dX10_image_27 rfl (lv_at hl 0 rfl) ?_
  refine x_get C hw iwX10 9 rfl 0 rfl 11 (by decide) kw457 rfl dX10_image_28 ?_
  refine lv_iload_n C.1 C.2.1 dX10_image_31 rfl (lv_at hl 1 rfl) ?_
  refine x_aldIm (b := i1) C hw 10 rfl (x_in rfl) rfl dX10_image_32 ?_
  refine x_get C hw iwX3 3 rfl 11 rfl 2 (by decide) kw434 rfl dX10_image_33 ?_
  refine lv_aload_n C.1 C.2.1 dX10_image_36 rfl (lv_at hl 0 rfl) ?_
  refine x_get C hw iwX10 9 rfl 0 rfl 3 (by decide) kw449 rfl dX10_image_37 ?_
  refine x_callvV (As := [.ref qa]) (rest := []) (wr := [(qx, .inr (9, [.ref qt, .ref qs, .ref qd, .ref qa, .ref qb, .ref qh, .ref qr, .ref qe, .ref qp, .ref qf, .ref qn, .ref qi, .ref qo, .int 0, .int 0, .int (-1), .int (-1)])), (qr, .inr (6, [.int 0, .int 0, .int 0, .ref rkeys, .ref rsigns, .ref rnumbers, .ref rstack])), (rkeys, eI G 40 (fun _ => 0)), (rsigns, eI G 40 (fun _ => 0)), (rnumbers, eI G 40 (fun _ => 0)), (rstack, eI G 40 (fun _ => 0)), (qi, eIm G 2 (va_up (va_up (fun _ => none) 0 (some i0)) 1 (some i1))), (i1, .inr (3, [.int 0, .ref i1s, .ref i1a, .ref i1r])), (i1r, .inr (6, [.int 0, .int 0, .int 0, .ref i1rkeys, .ref i1rsigns, .ref i1rnumbers, .ref i1rstack])), (i1rkeys, eI G 40 (fun _ => 0)), (i1rsigns, eI G 40 (fun _ => 0)), (i1rnumbers, eI G 40 (fun _ => 0)), (i1rstack, eI G 40 (fun _ => 0)), (i1s, .inr (4, [.int 0, .int 0, .int 0, .int 0, .int 1, .int 0, .int 40, .int 0, .int 0, .ref i1sslideNames, .ref i1spictures, .ref i1sheats, .ref i1safter, .ref i1shearerNames, .ref i1sneeds, .ref i1slikes, .ref i1shates, .ref i1snear])), (i1sslideNames, eJ G 6 (va_cpy (fun _ => 0) (fun _ => 0) 0 0 6)), (i1spictures, eI G 6 (va_cpy (fun _ => 0) (fun _ => 0) 0 0 6)), (i1sheats, eI G 6 (va_cpy (fun _ => 0) (fun _ => 0) 0 0 6)), (i1safter, eI G 6 (va_cpy (fun _ => 0) (fun _ => 0) 0 0 6)), (i1shearerNames, eJ G 8 (va_cpy (fun _ => 0) (fun _ => 0) 0 0 8)), (i1sneeds, eI G 8 (va_cpy (fun _ => 0) (fun _ => 0) 0 0 8)), (i1slikes, eI G 8 (va_cpy (fun _ => 0) (fun _ => 0) 0 0 8)), (i1shates, eI G 8 (va_cpy (fun _ => 0) (fun _ => 0) 0 0 8)), (i1snear, eI G 8 (va_cpy (fun _ => 0) (fun _ => 0) 0 0 8)), (qs, .inr (4, [.int 0, .int 0, .int 0, .int 0, .int 1, .int 0, .int 40, .int 0, .int 0, .ref sslideNames, .ref spictures, .ref sheats, .ref safter, .ref shearerNames, .ref sneeds, .ref slikes, .ref shates, .ref snear])), (sslideNames, eJ G 6 (fun _ => 0)), (spictures, eI G 6 (fun _ => 0)), (sheats, eI G 6 (fun _ => 0)), (safter, eI G 6 (fun _ => 0)), (shearerNames, eJ G 8 (fun _ => 0)), (sneeds, eI G 8 (fun _ => 0)), (slikes, eI G 8 (fun _ => 0)), (shates, eI G 8 (fun _ => 0)), (snear, eI G 8 (fun _ => 0))]) C hw (c_X8_copyFrom i1a qa 0 0 0 0 0 0 0 0 i1apictures i1ashown i1asighed (fun _ => 0) (fun _ => 0) (fun _ => 0) 0 0 0 0 0 0 0 0 apictures ashown asighed (fun _ => 0) (fun _ => 0) (fun _ => 0) isB0) mwX8_copyFrom kw690 [12, 13, 14, 15, 1, 2, 3, 4] [0, 5, 6, 7, 8, 9, 10, 11, 16, 17, 18, 19, 20, 21, 22, 23, 24, 25, 26, 27, 28, 29, 30, 31, 32, 33, 34, 35, 36, 37, 38, 39, 40] rfl rfl rfl rfl (by decide) 0 rfl rfl rfl rfl hl.1 rfl (Nat.le_of_ble_eq_true rfl) ⟨(Nat.le_of_ble_eq_true rfl), (Nat.le_of_ble_eq_true rfl)⟩ ⟨(Nat.le_of_ble_eq_true rfl), (Nat.le_of_ble_eq_true rfl)⟩ dX10_image_40 (fun  u9 H locs hp9 hw => ?_)
  obtain rfl := hp9
  have hw : Wd G s A [(qx, .inr (9, [.ref qt, .ref qs, .ref qd, .ref qa, .ref qb, .ref qh, .ref qr, .ref qe, .ref qp, .ref qf, .ref qn, .ref qi, .ref qo, .int 0, .int 0, .int (-1), .int (-1)])), (qr, .inr (6, [.int 0, .int 0, .int 0, .ref rkeys, .ref rsigns, .ref rnumbers, .ref rstack])), (rkeys, eI G 40 (fun _ => 0)), (rsigns, eI G 40 (fun _ => 0)), (rnumbers, eI G 40 (fun _ => 0)), (rstack, eI G 40 (fun _ => 0)), (qi, eIm G 2 (va_up (va_up (fun _ => none) 0 (some i0)) 1 (some i1))), (i1, .inr (3, [.int 0, .ref i1s, .ref i1a, .ref i1r])), (i1r, .inr (6, [.int 0, .int 0, .int 0, .ref i1rkeys, .ref i1rsigns, .ref i1rnumbers, .ref i1rstack])), (i1rkeys, eI G 40 (fun _ => 0)), (i1rsigns, eI G 40 (fun _ => 0)), (i1rnumbers, eI G 40 (fun _ => 0)), (i1rstack, eI G 40 (fun _ => 0)), (i1s, .inr (4, [.int 0, .int 0, .int 0, .int 0, .int 1, .int 0, .int 40, .int 0, .int 0, .ref i1sslideNames, .ref i1spictures, .ref i1sheats, .ref i1safter, .ref i1shearerNames, .ref i1sneeds, .ref i1slikes, .ref i1shates, .ref i1snear])), (i1sslideNames, eJ G 6 (va_cpy (fun _ => 0) (fun _ => 0) 0 0 6)), (i1spictures, eI G 6 (va_cpy (fun _ => 0) (fun _ => 0) 0 0 6)), (i1sheats, eI G 6 (va_cpy (fun _ => 0) (fun _ => 0) 0 0 6)), (i1safter, eI G 6 (va_cpy (fun _ => 0) (fun _ => 0) 0 0 6)), (i1shearerNames, eJ G 8 (va_cpy (fun _ => 0) (fun _ => 0) 0 0 8)), (i1sneeds, eI G 8 (va_cpy (fun _ => 0) (fun _ => 0) 0 0 8)), (i1slikes, eI G 8 (va_cpy (fun _ => 0) (fun _ => 0) 0 0 8)), (i1shates, eI G 8 (va_cpy (fun _ => 0) (fun _ => 0) 0 0 8)), (i1snear, eI G 8 (va_cpy (fun _ => 0) (fun _ => 0) 0 0 8)), (qs, .inr (4, [.int 0, .int 0, .int 0, .int 0, .int 1, .int 0, .int 40, .int 0, .int 0, .ref sslideNames, .ref spictures, .ref sheats, .ref safter, .ref shearerNames, .ref sneeds, .ref slikes, .ref shates, .ref snear])), (sslideNames, eJ G 6 (fun _ => 0)), (spictures, eI G 6 (fun _ => 0)), (sheats, eI G 6 (fun _ => 0)), (safter, eI G 6 (fun _ => 0)), (shearerNames, eJ G 8 (fun _ => 0)), (sneeds, eI G 8 (fun _ => 0)), (slikes, eI G 8 (fun _ => 0)), (shates, eI G 8 (fun _ => 0)), (snear, eI G 8 (fun _ => 0)), (i1a, .inr (7, [.int 0, .int 0, .int 0, .int 0, .int 0, .int 0, .int 0, .int 0, .ref i1apictures, .ref i1ashown, .ref i1asighed])), (i1apictures, eI G 6 (va_cpy (fun _ => 0) (fun _ => 0) 0 0 6)), (i1ashown, eI G 6 (va_cpy (fun _ => 0) (fun _ => 0) 0 0 6)), (i1asighed, eI G 8 (va_cpy (fun _ => 0) (fun _ => 0) 0 0 8)), (qa, .inr (7, [.int 0, .int 0, .int 0, .int 0, .int 0, .int 0, .int 0, .int 0, .ref apictures, .ref ashown, .ref asighed])), (apictures, eI G 6 (fun _ => 0)), (ashown, eI G 6 (fun _ => 0)), (asighed, eI G 8 (fun _ => 0))] H _ := hw
  refine lv_aload_n C.1 C.2.1 dX10_image_43 rfl (lv_at hl 0 rfl) ?_
  refine x_get C hw iwX10 9 rfl 0 rfl 11 (by decide) kw457 rfl dX10_image_44 ?_
  refine lv_iload_n C.1 C.2.1 dX10_image_47 rfl (lv_at hl 1 rfl) ?_
  refine x_aldIm (b := i1) C hw 6 rfl (x_in rfl) rfl dX10_image_48 ?_
  refine x_get C hw iwX3 3 rfl 7 rfl 3 (by decide) kw436 rfl dX10_image_49 ?_
  refine lv_aload_n C.1 C.2.1 dX10_image_52 rfl (lv_at hl 0 rfl) ?_
  refine x_get C hw iwX10 9 rfl 0 rfl 6 (by decide) kw452 rfl dX10_image_53 ?_
  refine x_callvV (As := [.ref qr]) (rest := []) (wr := [(qx, .inr (9, [.ref qt, .ref qs, .ref qd, .ref qa, .ref qb, .ref qh, .ref qr, .ref qe, .ref qp, .ref qf, .ref qn, .ref qi, .ref qo, .int 0, .int 0, .int (-1), .int (-1)])), (qi, eIm G 2 (va_up (va_up (fun _ => none) 0 (some i0)) 1 (some i1))), (i1, .inr (3, [.int 0, .ref i1s, .ref i1a, .ref i1r])), (i1s, .inr (4, [.int 0, .int 0, .int 0, .int 0, .int 1, .int 0, .int 40, .int 0, .int 0, .ref i1sslideNames, .ref i1spictures, .ref i1sheats, .ref i1safter, .ref i1shearerNames, .ref i1sneeds, .ref i1slikes, .ref i1shates, .ref i1snear])), (i1sslideNames, eJ G 6 (va_cpy (fun _ => 0) (fun _ => 0) 0 0 6)), (i1spictures, eI G 6 (va_cpy (fun _ => 0) (fun _ => 0) 0 0 6)), (i1sheats, eI G 6 (va_cpy (fun _ => 0) (fun _ => 0) 0 0 6)), (i1safter, eI G 6 (va_cpy (fun _ => 0) (fun _ => 0) 0 0 6)), (i1shearerNames, eJ G 8 (va_cpy (fun _ => 0) (fun _ => 0) 0 0 8)), (i1sneeds, eI G 8 (va_cpy (fun _ => 0) (fun _ => 0) 0 0 8)), (i1slikes, eI G 8 (va_cpy (fun _ => 0) (fun _ => 0) 0 0 8)), (i1shates, eI G 8 (va_cpy (fun _ => 0) (fun _ => 0) 0 0 8)), (i1snear, eI G 8 (va_cpy (fun _ => 0) (fun _ => 0) 0 0 8)), (qs, .inr (4, [.int 0, .int 0, .int 0, .int 0, .int 1, .int 0, .int 40, .int 0, .int 0, .ref sslideNames, .ref spictures, .ref sheats, .ref safter, .ref shearerNames, .ref sneeds, .ref slikes, .ref shates, .ref snear])), (sslideNames, eJ G 6 (fun _ => 0)), (spictures, eI G 6 (fun _ => 0)), (sheats, eI G 6 (fun _ => 0)), (safter, eI G 6 (fun _ => 0)), (shearerNames, eJ G 8 (fun _ => 0)), (sneeds, eI G 8 (fun _ => 0)), (slikes, eI G 8 (fun _ => 0)), (shates, eI G 8 (fun _ => 0)), (snear, eI G 8 (fun _ => 0)), (i1a, .inr (7, [.int 0, .int 0, .int 0, .int 0, .int 0, .int 0, .int 0, .int 0, .ref i1apictures, .ref i1ashown, .ref i1asighed])), (i1apictures, eI G 6 (va_cpy (fun _ => 0) (fun _ => 0) 0 0 6)), (i1ashown, eI G 6 (va_cpy (fun _ => 0) (fun _ => 0) 0 0 6)), (i1asighed, eI G 8 (va_cpy (fun _ => 0) (fun _ => 0) 0 0 8)), (qa, .inr (7, [.int 0, .int 0, .int 0, .int 0, .int 0, .int 0, .int 0, .int 0, .ref apictures, .ref ashown, .ref asighed])), (apictures, eI G 6 (fun _ => 0)), (ashown, eI G 6 (fun _ => 0)), (asighed, eI G 8 (fun _ => 0))]) C hw (c_X7_copyFrom i1r qr 0 0 0 i1rkeys i1rsigns i1rnumbers i1rstack (fun _ => 0) (fun _ => 0) (fun _ => 0) (fun _ => 0) 0 0 0 rkeys rsigns rnumbers rstack (fun _ => 0) (fun _ => 0) (fun _ => 0) (fun _ => 0) isB0) mwX7_copyFrom kw1049 [8, 9, 10, 11, 12, 1, 2, 3, 4, 5] [0, 6, 7, 13, 14, 15, 16, 17, 18, 19, 20, 21, 22, 23, 24, 25, 26, 27, 28, 29, 30, 31, 32, 33, 34, 35, 36, 37, 38, 39, 40] rfl rfl rfl rfl (by decide) 0 rfl rfl rfl rfl hl.1 rfl (Nat.le_of_ble_eq_true rfl) ⟨(Nat.le_of_ble_eq_true rfl), (Nat.le_of_ble_eq_true rfl)⟩ ⟨(Nat.le_of_ble_eq_true rfl), (Nat.le_of_ble_eq_true rfl)⟩ dX10_image_56 (fun  u9 H locs hp9 hw => ?_)
  obtain rfl := hp9
  have hw : Wd G s A [(qx, .inr (9, [.ref qt, .ref qs, .ref qd, .ref qa, .ref qb, .ref qh, .ref qr, .ref qe, .ref qp, .ref qf, .ref qn, .ref qi, .ref qo, .int 0, .int 0, .int (-1), .int (-1)])), (qi, eIm G 2 (va_up (va_up (fun _ => none) 0 (some i0)) 1 (some i1))), (i1, .inr (3, [.int 0, .ref i1s, .ref i1a, .ref i1r])), (i1s, .inr (4, [.int 0, .int 0, .int 0, .int 0, .int 1, .int 0, .int 40, .int 0, .int 0, .ref i1sslideNames, .ref i1spictures, .ref i1sheats, .ref i1safter, .ref i1shearerNames, .ref i1sneeds, .ref i1slikes, .ref i1shates, .ref i1snear])), (i1sslideNames, eJ G 6 (va_cpy (fun _ => 0) (fun _ => 0) 0 0 6)), (i1spictures, eI G 6 (va_cpy (fun _ => 0) (fun _ => 0) 0 0 6)), (i1sheats, eI G 6 (va_cpy (fun _ => 0) (fun _ => 0) 0 0 6)), (i1safter, eI G 6 (va_cpy (fun _ => 0) (fun _ => 0) 0 0 6)), (i1shearerNames, eJ G 8 (va_cpy (fun _ => 0) (fun _ => 0) 0 0 8)), (i1sneeds, eI G 8 (va_cpy (fun _ => 0) (fun _ => 0) 0 0 8)), (i1slikes, eI G 8 (va_cpy (fun _ => 0) (fun _ => 0) 0 0 8)), (i1shates, eI G 8 (va_cpy (fun _ => 0) (fun _ => 0) 0 0 8)), (i1snear, eI G 8 (va_cpy (fun _ => 0) (fun _ => 0) 0 0 8)), (qs, .inr (4, [.int 0, .int 0, .int 0, .int 0, .int 1, .int 0, .int 40, .int 0, .int 0, .ref sslideNames, .ref spictures, .ref sheats, .ref safter, .ref shearerNames, .ref sneeds, .ref slikes, .ref shates, .ref snear])), (sslideNames, eJ G 6 (fun _ => 0)), (spictures, eI G 6 (fun _ => 0)), (sheats, eI G 6 (fun _ => 0)), (safter, eI G 6 (fun _ => 0)), (shearerNames, eJ G 8 (fun _ => 0)), (sneeds, eI G 8 (fun _ => 0)), (slikes, eI G 8 (fun _ => 0)), (shates, eI G 8 (fun _ => 0)), (snear, eI G 8 (fun _ => 0)), (i1a, .inr (7, [.int 0, .int 0, .int 0, .int 0, .int 0, .int 0, .int 0, .int 0, .ref i1apictures, .ref i1ashown, .ref i1asighed])), (i1apictures, eI G 6 (va_cpy (fun _ => 0) (fun _ => 0) 0 0 6)), (i1ashown, eI G 6 (va_cpy (fun _ => 0) (fun _ => 0) 0 0 6)), (i1asighed, eI G 8 (va_cpy (fun _ => 0) (fun _ => 0) 0 0 8)), (qa, .inr (7, [.int 0, .int 0, .int 0, .int 0, .int 0, .int 0, .int 0, .int 0, .ref apictures, .ref ashown, .ref asighed])), (apictures, eI G 6 (fun _ => 0)), (ashown, eI G 6 (fun _ => 0)), (asighed, eI G 8 (fun _ => 0)), (i1r, .inr (6, [.int 0, .int 0, .int 0, .ref i1rkeys, .ref i1rsigns, .ref i1rnumbers, .ref i1rstack])), (i1rkeys, eI G 40 (va_cpy (fun _ => 0) (fun _ => 0) 0 0 40)), (i1rsigns, eI G 40 (va_cpy (fun _ => 0) (fun _ => 0) 0 0 40)), (i1rnumbers, eI G 40 (va_cpy (fun _ => 0) (fun _ => 0) 0 0 40)), (i1rstack, eI G 40 (fun _ => 0)), (qr, .inr (6, [.int 0, .int 0, .int 0, .ref rkeys, .ref rsigns, .ref rnumbers, .ref rstack])), (rkeys, eI G 40 (fun _ => 0)), (rsigns, eI G 40 (fun _ => 0)), (rnumbers, eI G 40 (fun _ => 0)), (rstack, eI G 40 (fun _ => 0))] H _ := hw
  refine lv_aload_n C.1 C.2.1 dX10_image_59 rfl (lv_at hl 0 rfl) ?_
  refine x_get C hw iwX10 9 rfl 0 rfl 11 (by decide) kw457 rfl dX10_image_60 ?_
  refine lv_iload_n C.1 C.2.1 dX10_image_63 rfl (lv_at hl 1 rfl) ?_
  refine x_aldIm (b := i1) C hw 1 rfl (x_in rfl) rfl dX10_image_64 ?_
  refine lv_iconst (v := 1) C.1 C.2.1 dX10_image_65 (by decide) ?_
  refine x_put (w' := [(qx, .inr (9, [.ref qt, .ref qs, .ref qd, .ref qa, .ref qb, .ref qh, .ref qr, .ref qe, .ref qp, .ref qf, .ref qn, .ref qi, .ref qo, .int 0, .int 0, .int (-1), .int (-1)])), (qi, eIm G 2 (va_up (va_up (fun _ => none) 0 (some i0)) 1 (some i1))), (i1, .inr (3, [.int 1, .ref i1s, .ref i1a, .ref i1r])), (i1s, .inr (4, [.int 0, .int 0, .int 0, .int 0, .int 1, .int 0, .int 40, .int 0, .int 0, .ref i1sslideNames, .ref i1spictures, .ref i1sheats, .ref i1safter, .ref i1shearerNames, .ref i1sneeds, .ref i1slikes, .ref i1shates, .ref i1snear])), (i1sslideNames, eJ G 6 (va_cpy (fun _ => 0) (fun _ => 0) 0 0 6)), (i1spictures, eI G 6 (va_cpy (fun _ => 0) (fun _ => 0) 0 0 6)), (i1sheats, eI G 6 (va_cpy (fun _ => 0) (fun _ => 0) 0 0 6)), (i1safter, eI G 6 (va_cpy (fun _ => 0) (fun _ => 0) 0 0 6)), (i1shearerNames, eJ G 8 (va_cpy (fun _ => 0) (fun _ => 0) 0 0 8)), (i1sneeds, eI G 8 (va_cpy (fun _ => 0) (fun _ => 0) 0 0 8)), (i1slikes, eI G 8 (va_cpy (fun _ => 0) (fun _ => 0) 0 0 8)), (i1shates, eI G 8 (va_cpy (fun _ => 0) (fun _ => 0) 0 0 8)), (i1snear, eI G 8 (va_cpy (fun _ => 0) (fun _ => 0) 0 0 8)), (qs, .inr (4, [.int 0, .int 0, .int 0, .int 0, .int 1, .int 0, .int 40, .int 0, .int 0, .ref sslideNames, .ref spictures, .ref sheats, .ref safter, .ref shearerNames, .ref sneeds, .ref slikes, .ref shates, .ref snear])), (sslideNames, eJ G 6 (fun _ => 0)), (spictures, eI G 6 (fun _ => 0)), (sheats, eI G 6 (fun _ => 0)), (safter, eI G 6 (fun _ => 0)), (shearerNames, eJ G 8 (fun _ => 0)), (sneeds, eI G 8 (fun _ => 0)), (slikes, eI G 8 (fun _ => 0)), (shates, eI G 8 (fun _ => 0)), (snear, eI G 8 (fun _ => 0)), (i1a, .inr (7, [.int 0, .int 0, .int 0, .int 0, .int 0, .int 0, .int 0, .int 0, .ref i1apictures, .ref i1ashown, .ref i1asighed])), (i1apictures, eI G 6 (va_cpy (fun _ => 0) (fun _ => 0) 0 0 6)), (i1ashown, eI G 6 (va_cpy (fun _ => 0) (fun _ => 0) 0 0 6)), (i1asighed, eI G 8 (va_cpy (fun _ => 0) (fun _ => 0) 0 0 8)), (qa, .inr (7, [.int 0, .int 0, .int 0, .int 0, .int 0, .int 0, .int 0, .int 0, .ref apictures, .ref ashown, .ref asighed])), (apictures, eI G 6 (fun _ => 0)), (ashown, eI G 6 (fun _ => 0)), (asighed, eI G 8 (fun _ => 0)), (i1r, .inr (6, [.int 0, .int 0, .int 0, .ref i1rkeys, .ref i1rsigns, .ref i1rnumbers, .ref i1rstack])), (i1rkeys, eI G 40 (va_cpy (fun _ => 0) (fun _ => 0) 0 0 40)), (i1rsigns, eI G 40 (va_cpy (fun _ => 0) (fun _ => 0) 0 0 40)), (i1rnumbers, eI G 40 (va_cpy (fun _ => 0) (fun _ => 0) 0 0 40)), (i1rstack, eI G 40 (fun _ => 0)), (qr, .inr (6, [.int 0, .int 0, .int 0, .ref rkeys, .ref rsigns, .ref rnumbers, .ref rstack])), (rkeys, eI G 40 (fun _ => 0)), (rsigns, eI G 40 (fun _ => 0)), (rnumbers, eI G 40 (fun _ => 0)), (rstack, eI G 40 (fun _ => 0))]) C hw iwX3 tyX3_ok nmX3 3 rfl 2 rfl 0 (by decide) kw430 rfl (by first | rfl | decide) rfl (Nat.le_of_ble_eq_true rfl) rfl dX10_image_66 (fun H locs hw => ?_)
  refine lv_iconst (v := 1) C.1 C.2.1 dX10_image_69 (by decide) ?_
  have hw := hw.sub (w' := []) [] rfl rfl
  exact x_retz B hw rfl ⟨rfl, rfl⟩ (Nat.le_of_ble_eq_true rfl) (Nat.le_of_ble_eq_true rfl) dX10_image_70
set_option maxHeartbeats 4000000 in
set_option maxRecDepth 100000 in
theorem c_X10_restore__1 {l : Launch} {G : Gc} (qx : Nat) (qt : Nat) (qs : Nat) (qd : Nat) (qa : Nat) (qb : Nat) (qh : Nat) (qr : Nat) (qe : Nat) (qp : Nat) (qf : Nat) (qn : Nat) (qi : Nat) (qo : Nat) (i1 : Nat) (i1s : Nat) (i1a : Nat) (i1r : Nat) (i0 : Nat)  : Ci l yX10_restore cX10_restore 2 (some .boolean) 1 0 0 G [.ref qx, .int 1] [(qx, .inr (9, [.ref qt, .ref qs, .ref qd, .ref qa, .ref qb, .ref qh, .ref qr, .ref qe, .ref qp, .ref qf, .ref qn, .ref qi, .ref qo, .int 0, .int 0, .int (-1), .int (-1)])), (qi, eIm G 2 (va_up (va_up (fun _ => none) 0 (some i0)) 1 (some i1))), (i1, .inr (3, [.int 0, .ref i1s, .ref i1a, .ref i1r]))] (fun (r9 : Int32) (u9 : va_W) => r9 = 0 ∧ u9 = []) := by
  refine Ci.of (by decide) (Nat.le_of_ble_eq_true rfl) ?_
  intro p e s m below meth c ls A B hw hl
  have C : CallFix p m c cX10_restore 2 s _ gw "LanternState" := B.1
  have hl : lv_has ls 2 [(0, .ref qx), (1, .int 1)] := hl
  refine lv_iload_n C.1 C.2.1 dX10_restore_0 rfl (lv_at hl 1 rfl) ?_
  refine lv_if_lt (tgt := 21) C.1 C.2.1 dX10_restore_1 (by decide) (fun h9 => absurd h9 (by decide)) (fun _ => ?_)
  refine lv_iload_n C.1 C.2.1 dX10_restore_4 rfl (lv_at hl 1 rfl) ?_
  refine lv_iconst (v := 2) C.1 C.2.1 dX10_restore_5 (by decide) ?_
  refine lv_icmp_ge (tgt := 21) C.1 C.2.1 dX10_restore_6 (by decide) (fun h9 => absurd h9 (by decide)) (fun _ => ?_)
  refine lv_aload_n C.1 C.2.1 dX10_restore_9 rfl (lv_at hl 0 rfl) ?_
  refine x_get C hw iwX10 9 rfl 0 rfl 11 (by decide) kw457 rfl dX10_restore_10 ?_
  refine lv_iload_n C.1 C.2.1 dX10_restore_13 rfl (lv_at hl 1 rfl) ?_
  refine x_aldIm (b := i1) C hw 1 rfl (x_in rfl) rfl dX10_restore_14 ?_
  refine x_get C hw iwX3 3 rfl 2 rfl 0 (by decide) kw430 rfl dX10_restore_15 ?_
  refine lv_if_ne (tgt := 23) C.1 C.2.1 dX10_restore_18 (by decide) (fun h9 => absurd (by decide) h9) (fun _ => ?_)
  refine lv_iconst (v := 0) C.1 C.2.1 dX10_restore_21 (by decide) ?_
  have hw := hw.sub (w' := []) [] rfl rfl
  exact x_retz B hw rfl ⟨rfl, rfl⟩ (Nat.le_of_ble_eq_true rfl) (Nat.le_of_ble_eq_true rfl) dX10_restore_22
theorem dX10_image_9 : decode cX10_image 9 = .ok (.iconst 0, 1) := by decide +kernel
theorem dX10_image_10 : decode cX10_image 10 = .ok (.ireturn, 1) := by decide +kernel
set_option maxHeartbeats 4000000 in
set_option maxRecDepth 100000 in
theorem c_X10_image__N {l : Launch} {G : Gc} (qx : Nat) (a1 : Int32) (qt : Nat) (qs : Nat) (qd : Nat) (qa : Nat) (qb : Nat) (qh : Nat) (qr : Nat) (qe : Nat) (qp : Nat) (qf : Nat) (qn : Nat) (qi : Nat) (qo : Nat) (h0 : ¬ a1 = 0) (h1 : ¬ a1 = 1) : Ci l yX10_image cX10_image 2 (some .boolean) 0 0 0 G [.ref qx, .int a1] [(qx, .inr (9, [.ref qt, .ref qs, .ref qd, .ref qa, .ref qb, .ref qh, .ref qr, .ref qe, .ref qp, .ref qf, .ref qn, .ref qi, .ref qo, .int 0, .int 0, .int (-1), .int (-1)]))] (fun (r9 : Int32) (u9 : va_W) => r9 = 0 ∧ u9 = []) := by
  refine Ci.of (by decide) (Nat.le_of_ble_eq_true rfl) ?_
  intro p e s m below meth c ls A B hw hl
  have C : CallFix p m c cX10_image 2 s _ gw "LanternState" := B.1
  have hl : lv_has ls 2 [(0, .ref qx), (1, .int a1)] := hl
  refine lv_iload_n C.1 C.2.1 dX10_image_0 rfl (lv_at hl 1 rfl) ?_
  refine lv_if_lt (tgt := 9) C.1 C.2.1 dX10_image_1 (by decide) (fun c_1 => ?_) (fun c_1 => ?_)
  · skip
    refine lv_iconst (v := 0) C.1 C.2.1 dX10_image_9 (by decide) ?_
    have hw := hw.sub (w' := []) [] rfl rfl
    exact x_retz B hw rfl ⟨rfl, rfl⟩ (Nat.le_of_ble_eq_true rfl) (Nat.le_of_ble_eq_true rfl) dX10_image_10
  · skip
    refine lv_iload_n C.1 C.2.1 dX10_image_4 rfl (lv_at hl 1 rfl) ?_
    refine lv_iconst (v := 2) C.1 C.2.1 dX10_image_5 (by decide) ?_
    refine lv_icmp_lt (tgt := 11) C.1 C.2.1 dX10_image_6 (by decide) (fun h9 => absurd h9 (x_n01 c_1 h0 h1)) (fun _ => ?_)
    refine lv_iconst (v := 0) C.1 C.2.1 dX10_image_9 (by decide) ?_
    have hw := hw.sub (w' := []) [] rfl rfl
    exact x_retz B hw rfl ⟨rfl, rfl⟩ (Nat.le_of_ble_eq_true rfl) (Nat.le_of_ble_eq_true rfl) dX10_image_10
set_option maxHeartbeats 4000000 in
set_option maxRecDepth 100000 in
theorem c_X10_restore__N {l : Launch} {G : Gc} (qx : Nat) (a1 : Int32) (qt : Nat) (qs : Nat) (qd : Nat) (qa : Nat) (qb : Nat) (qh : Nat) (qr : Nat) (qe : Nat) (qp : Nat) (qf : Nat) (qn : Nat) (qi : Nat) (qo : Nat) (h0 : ¬ a1 = 0) (h1 : ¬ a1 = 1) : Ci l yX10_restore cX10_restore 2 (some .boolean) 0 0 0 G [.ref qx, .int a1] [(qx, .inr (9, [.ref qt, .ref qs, .ref qd, .ref qa, .ref qb, .ref qh, .ref qr, .ref qe, .ref qp, .ref qf, .ref qn, .ref qi, .ref qo, .int 0, .int 0, .int (-1), .int (-1)]))] (fun (r9 : Int32) (u9 : va_W) => r9 = 0 ∧ u9 = []) := by
  refine Ci.of (by decide) (Nat.le_of_ble_eq_true rfl) ?_
  intro p e s m below meth c ls A B hw hl
  have C : CallFix p m c cX10_restore 2 s _ gw "LanternState" := B.1
  have hl : lv_has ls 2 [(0, .ref qx), (1, .int a1)] := hl
  refine lv_iload_n C.1 C.2.1 dX10_restore_0 rfl (lv_at hl 1 rfl) ?_
  refine lv_if_lt (tgt := 21) C.1 C.2.1 dX10_restore_1 (by decide) (fun c_1 => ?_) (fun c_1 => ?_)
  · skip
    refine lv_iconst (v := 0) C.1 C.2.1 dX10_restore_21 (by decide) ?_
    have hw := hw.sub (w' := []) [] rfl rfl
    exact x_retz B hw rfl ⟨rfl, rfl⟩ (Nat.le_of_ble_eq_true rfl) (Nat.le_of_ble_eq_true rfl) dX10_restore_22
  · skip
    refine lv_iload_n C.1 C.2.1 dX10_restore_4 rfl (lv_at hl 1 rfl) ?_
    refine lv_iconst (v := 2) C.1 C.2.1 dX10_restore_5 (by decide) ?_
    refine lv_icmp_ge (tgt := 21) C.1 C.2.1 dX10_restore_6 (by decide) (fun _ => ?_) (fun h9 => absurd (x_n01b c_1 h0 h1) h9)
    refine lv_iconst (v := 0) C.1 C.2.1 dX10_restore_21 (by decide) ?_
    have hw := hw.sub (w' := []) [] rfl rfl
    exact x_retz B hw rfl ⟨rfl, rfl⟩ (Nat.le_of_ble_eq_true rfl) (Nat.le_of_ble_eq_true rfl) dX10_restore_22
