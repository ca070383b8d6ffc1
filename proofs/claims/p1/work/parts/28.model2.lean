theorem dX11_isIn_0 : decode cX11_isIn 0 = .ok (.iload_n 0, 1) := by decide +kernel
theorem dX11_isIn_1 : decode cX11_isIn 1 = .ok (.iload_n 1, 1) := by decide +kernel
theorem dX11_isIn_2 : decode cX11_isIn 2 = .ok (.if_icmp .lt 12, 3) := by decide +kernel
theorem dX11_isIn_14 : decode cX11_isIn 14 = .ok (.iconst 0, 1) := by decide +kernel
theorem dX11_isIn_15 : decode cX11_isIn 15 = .ok (.ireturn, 1) := by decide +kernel
theorem dX11_isIn_5 : decode cX11_isIn 5 = .ok (.iload_n 0, 1) := by decide +kernel
theorem dX11_isIn_6 : decode cX11_isIn 6 = .ok (.iload_n 2, 1) := by decide +kernel
theorem dX11_isIn_7 : decode cX11_isIn 7 = .ok (.if_icmp .gt 7, 3) := by decide +kernel
set_option maxHeartbeats 4000000 in
set_option maxRecDepth 100000 in
theorem c_X11_isInF {l : Launch} {G : Gc} (v9 : Int32) (a9 : Int32) (b9 : Int32) (hf : v9 < a9 ∨ b9 < v9) : Ci l yX11_isIn cX11_isIn 3 (some .boolean) 0 0 0 G [.int v9, .int a9, .int b9] [] (fun (r9 : Int32) (u9 : va_W) => r9 = 0 ∧ u9 = []) := by
  refine Ci.of (by decide) (Nat.le_of_ble_eq_true rfl) ?_
  intro p e s m below meth c ls A B hw hl
  have C : CallFix p m c cX11_isIn 3 s _ gw "LanternStateModel" := B.1
  have hl : lv_has ls 3 [(0, .int v9), (1, .int a9), (2, .int b9)] := hl
  refine lv_iload_n C.1 C.2.1 dX11_isIn_0 rfl (lv_at hl 0 rfl) ?_
  refine lv_iload_n C.1 C.2.1 dX11_isIn_1 rfl (lv_at hl 1 rfl) ?_
  refine lv_icmp_lt (tgt := 14) C.1 C.2.1 dX11_isIn_2 (by decide) (fun c_2 => ?_) (fun c_2 => ?_)
  · skip
    refine lv_iconst (v := 0) C.1 C.2.1 dX11_isIn_14 (by decide) ?_
    exact x_retz B hw rfl ⟨rfl, rfl⟩ (Nat.le_of_ble_eq_true rfl) (Nat.le_of_ble_eq_true rfl) dX11_isIn_15
  · skip
    refine lv_iload_n C.1 C.2.1 dX11_isIn_5 rfl (lv_at hl 0 rfl) ?_
    refine lv_iload_n C.1 C.2.1 dX11_isIn_6 rfl (lv_at hl 2 rfl) ?_
    refine lv_icmp_gt (tgt := 14) C.1 C.2.1 dX11_isIn_7 (by decide) (fun _ => ?_) (fun h9 => absurd (hf.resolve_left c_2) h9)
    refine lv_iconst (v := 0) C.1 C.2.1 dX11_isIn_14 (by decide) ?_
    exact x_retz B hw rfl ⟨rfl, rfl⟩ (Nat.le_of_ble_eq_true rfl) (Nat.le_of_ble_eq_true rfl) dX11_isIn_15
theorem dX11_isIn_10 : decode cX11_isIn 10 = .ok (.iconst 1, 1) := by decide +kernel
theorem dX11_isIn_11 : decode cX11_isIn 11 = .ok (.goto 4, 3) := by decide +kernel
set_option maxHeartbeats 4000000 in
set_option maxRecDepth 100000 in
theorem c_X11_isInT {l : Launch} {G : Gc} (v9 : Int32) (a9 : Int32) (b9 : Int32) (h1 : ¬ v9 < a9) (h2 : ¬ b9 < v9) : Ci l yX11_isIn cX11_isIn 3 (some .boolean) 0 0 0 G [.int v9, .int a9, .int b9] [] (fun (r9 : Int32) (u9 : va_W) => r9 = 1 ∧ u9 = []) := by
  refine Ci.of (by decide) (Nat.le_of_ble_eq_true rfl) ?_
  intro p e s m below meth c ls A B hw hl
  have C : CallFix p m c cX11_isIn 3 s _ gw "LanternStateModel" := B.1
  have hl : lv_has ls 3 [(0, .int v9), (1, .int a9), (2, .int b9)] := hl
  refine lv_iload_n C.1 C.2.1 dX11_isIn_0 rfl (lv_at hl 0 rfl) ?_
  refine lv_iload_n C.1 C.2.1 dX11_isIn_1 rfl (lv_at hl 1 rfl) ?_
  refine lv_icmp_lt (tgt := 14) C.1 C.2.1 dX11_isIn_2 (by decide) (fun h9 => absurd h9 h1) (fun _ => ?_)
  refine lv_iload_n C.1 C.2.1 dX11_isIn_5 rfl (lv_at hl 0 rfl) ?_
  refine lv_iload_n C.1 C.2.1 dX11_isIn_6 rfl (lv_at hl 2 rfl) ?_
  refine lv_icmp_gt (tgt := 14) C.1 C.2.1 dX11_isIn_7 (by decide) (fun h9 => absurd h9 h2) (fun _ => ?_)
  refine lv_iconst (v := 1) C.1 C.2.1 dX11_isIn_10 (by decide) ?_
  refine lv_goto (tgt := 15) C.1 C.2.1 dX11_isIn_11 (by decide) ?_
  exact x_retz B hw rfl ⟨rfl, rfl⟩ (Nat.le_of_ble_eq_true rfl) (Nat.le_of_ble_eq_true rfl) dX11_isIn_15
theorem dX11_isSlide_0 : decode cX11_isSlide 0 = .ok (.iload_n 1, 1) := by decide +kernel
theorem dX11_isSlide_1 : decode cX11_isSlide 1 = .ok (.iconst 0, 1) := by decide +kernel
theorem dX11_isSlide_2 : decode cX11_isSlide 2 = .ok (.aload_n 0, 1) := by decide +kernel
theorem dX11_isSlide_3 : decode cX11_isSlide 3 = .ok (.getfield 98, 3) := by decide +kernel
theorem dX11_isSlide_6 : decode cX11_isSlide 6 = .ok (.iconst 0, 1) := by decide +kernel
theorem dX11_isSlide_7 : decode cX11_isSlide 7 = .ok (.iaload, 1) := by decide +kernel
theorem nw0_0 : nw0 0 = 0 := by decide +kernel
theorem dX11_isSlide_8 : decode cX11_isSlide 8 = .ok (.iconst 1, 1) := by decide +kernel
theorem dX11_isSlide_9 : decode cX11_isSlide 9 = .ok (.isub, 1) := by decide +kernel
theorem dX11_isSlide_10 : decode cX11_isSlide 10 = .ok (.invokestatic 75, 3) := by decide +kernel
theorem mwX11_isIn : MwS yX11_isIn cX11_isIn 3 (some .boolean) 3 := ⟨⟨kw1402, kw15, by decide +kernel⟩, kw1401⟩
theorem dX11_isSlide_13 : decode cX11_isSlide 13 = .ok (.ireturn, 1) := by decide +kernel
set_option maxHeartbeats 4000000 in
set_option maxRecDepth 100000 in
theorem c_X11_isSlide {l : Launch} {G : Gc} (qm : Nat) (s9 : Int32) (mtape : Nat) (mnow : Nat) (mread : Nat) (mkept : Nat) (msnaps : Nat) (maside : Nat) (mname : Nat) (mreadName : Nat) (mkeptName : Nat) (misKept : Nat) (monces : Nat) (morder : Nat) (mordered : Nat) (mtext : Nat) (mline : Nat) (mwritten : Nat) (mnode : Nat)  : Ci l yX11_isSlide cX11_isSlide 2 (some .boolean) 1 0 0 G [.ref qm, .int s9] [(qm, .inr (10, [.int 0, .ref mtape, .int 0, .int 0, .int 0, .int 0, .int 0, .int 0, .int 0, .int 0, .int 0, .int 0, .long 0, .int 0, .ref mnow, .ref mread, .ref mkept, .ref msnaps, .ref maside, .ref mname, .ref mreadName, .ref mkeptName, .ref misKept, .ref monces, .int 0, .ref morder, .ref mordered, .int 0, .int 0, .int 0, .int (-1), .int (-1), .ref mtext, .int 0, .int 0, .ref mline, .ref mwritten, .int 0, .int 0, .ref mnode, .int 0, .int 0, .int 0, .int 0])), (mnow, eI G 339 nw0)] (fun (r9 : Int32) (u9 : va_W) => r9 = 0 ∧ u9 = [(qm, .inr (10, [.int 0, .ref mtape, .int 0, .int 0, .int 0, .int 0, .int 0, .int 0, .int 0, .int 0, .int 0, .int 0, .long 0, .int 0, .ref mnow, .ref mread, .ref mkept, .ref msnaps, .ref maside, .ref mname, .ref mreadName, .ref mkeptName, .ref misKept, .ref monces, .int 0, .ref morder, .ref mordered, .int 0, .int 0, .int 0, .int (-1), .int (-1), .ref mtext, .int 0, .int 0, .ref mline, .ref mwritten, .int 0, .int 0, .ref mnode, .int 0, .int 0, .int 0, .int 0])), (mnow, eI G 339 nw0)]) := by
  refine Ci.of (by decide) (Nat.le_of_ble_eq_true rfl) ?_
  intro p e s m below meth c ls A B hw hl
  have C : CallFix p m c cX11_isSlide 2 s _ gw "LanternStateModel" := B.1
  have hl : lv_has ls 2 [(0, .ref qm), (1, .int s9)] := hl
  refine lv_iload_n C.1 C.2.1 dX11_isSlide_0 rfl (lv_at hl 1 rfl) ?_
  refine lv_iconst (v := 0) C.1 C.2.1 dX11_isSlide_1 (by decide) ?_
  refine lv_aload_n C.1 C.2.1 dX11_isSlide_2 rfl (lv_at hl 0 rfl) ?_
  refine x_get C hw iwX11 10 rfl 0 rfl 14 (by decide) kw1211 rfl dX11_isSlide_3 ?_
  refine lv_iconst (v := 0) C.1 C.2.1 dX11_isSlide_6 (by decide) ?_
  refine x_iald (v := 0) C hw 1 rfl (x_in rfl) nw0_0 dX11_isSlide_7 ?_
  refine lv_iconst (v := 1) C.1 C.2.1 dX11_isSlide_8 (by decide) ?_
  refine lv_isub C.1 C.2.1 dX11_isSlide_9 ?_
  refine x_topi (z := (-1)) (by decide) ?_
  refine x_calliS (As := [.int s9, .int 0, .int (-1)]) (rest := []) (wr := [(qm, .inr (10, [.int 0, .ref mtape, .int 0, .int 0, .int 0, .int 0, .int 0, .int 0, .int 0, .int 0, .int 0, .int 0, .long 0, .int 0, .ref mnow, .ref mread, .ref mkept, .ref msnaps, .ref maside, .ref mname, .ref mreadName, .ref mkeptName, .ref misKept, .ref monces, .int 0, .ref morder, .ref mordered, .int 0, .int 0, .int 0, .int (-1), .int (-1), .ref mtext, .int 0, .int 0, .ref mline, .ref mwritten, .int 0, .int 0, .ref mnode, .int 0, .int 0, .int 0, .int 0])), (mnow, eI G 339 nw0)]) C hw (c_X11_isInF s9 0 (-1) (x_em _)) mwX11_isIn kw1400 [] [0, 1] rfl rfl rfl rfl (by decide) rfl hl.1 rfl (Nat.le_of_ble_eq_true rfl) ⟨(Nat.le_of_ble_eq_true rfl), (Nat.le_of_ble_eq_true rfl)⟩ ⟨(Nat.le_of_ble_eq_true rfl), (Nat.le_of_ble_eq_true rfl)⟩ dX11_isSlide_10 (fun r1 u9 H locs hp9 hw => ?_)
  obtain ⟨rfl, rfl⟩ := hp9
  have hw : Wd G s A [(qm, .inr (10, [.int 0, .ref mtape, .int 0, .int 0, .int 0, .int 0, .int 0, .int 0, .int 0, .int 0, .int 0, .int 0, .long 0, .int 0, .ref mnow, .ref mread, .ref mkept, .ref msnaps, .ref maside, .ref mname, .ref mreadName, .ref mkeptName, .ref misKept, .ref monces, .int 0, .ref morder, .ref mordered, .int 0, .int 0, .int 0, .int (-1), .int (-1), .ref mtext, .int 0, .int 0, .ref mline, .ref mwritten, .int 0, .int 0, .ref mnode, .int 0, .int 0, .int 0, .int 0])), (mnow, eI G 339 nw0)] H _ := hw
  exact x_retz B hw rfl ⟨rfl, rfl⟩ (Nat.le_of_ble_eq_true rfl) (Nat.le_of_ble_eq_true rfl) dX11_isSlide_13
theorem dX11_isHearer_0 : decode cX11_isHearer 0 = .ok (.iload_n 1, 1) := by decide +kernel
theorem dX11_isHearer_1 : decode cX11_isHearer 1 = .ok (.iconst 0, 1) := by decide +kernel
theorem dX11_isHearer_2 : decode cX11_isHearer 2 = .ok (.aload_n 0, 1) := by decide +kernel
theorem dX11_isHearer_3 : decode cX11_isHearer 3 = .ok (.getfield 98, 3) := by decide +kernel
theorem dX11_isHearer_6 : decode cX11_isHearer 6 = .ok (.iconst 1, 1) := by decide +kernel
theorem dX11_isHearer_7 : decode cX11_isHearer 7 = .ok (.iaload, 1) := by decide +kernel
theorem nw0_1 : nw0 1 = 0 := by decide +kernel
theorem dX11_isHearer_8 : decode cX11_isHearer 8 = .ok (.iconst 1, 1) := by decide +kernel
theorem dX11_isHearer_9 : decode cX11_isHearer 9 = .ok (.isub, 1) := by decide +kernel
theorem dX11_isHearer_10 : decode cX11_isHearer 10 = .ok (.invokestatic 75, 3) := by decide +kernel
theorem dX11_isHearer_13 : decode cX11_isHearer 13 = .ok (.ireturn, 1) := by decide +kernel
set_option maxHeartbeats 4000000 in
set_option maxRecDepth 100000 in
theorem c_X11_isHearer {l : Launch} {G : Gc} (qm : Nat) (s9 : Int32) (mtape : Nat) (mnow : Nat) (mread : Nat) (mkept : Nat) (msnaps : Nat) (maside : Nat) (mname : Nat) (mreadName : Nat) (mkeptName : Nat) (misKept : Nat) (monces : Nat) (morder : Nat) (mordered : Nat) (mtext : Nat) (mline : Nat) (mwritten : Nat) (mnode : Nat)  : Ci l yX11_isHearer cX11_isHearer 2 (some .boolean) 1 0 0 G [.ref qm, .int s9] [(qm, .inr (10, [.int 0, .ref mtape, .int 0, .int 0, .int 0, .int 0, .int 0, .int 0, .int 0, .int 0, .int 0, .int 0, .long 0, .int 0, .ref mnow, .ref mread, .ref mkept, .ref msnaps, .ref maside, .ref mname, .ref mreadName, .ref mkeptName, .ref misKept, .ref monces, .int 0, .ref morder, .ref mordered, .int 0, .int 0, .int 0, .int (-1), .int (-1), .ref mtext, .int 0, .int 0, .ref mline, .ref mwritten, .int 0, .int 0, .ref mnode, .int 0, .int 0, .int 0, .int 0])), (mnow, eI G 339 nw0)] (fun (r9 : Int32) (u9 : va_W) => r9 = 0 ∧ u9 = [(qm, .inr (10, [.int 0, .ref mtape, .int 0, .int 0, .int 0, .int 0, .int 0, .int 0, .int 0, .int 0, .int 0, .int 0, .long 0, .int 0, .ref mnow, .ref mread, .ref mkept, .ref msnaps, .ref maside, .ref mname, .ref mreadName, .ref mkeptName, .ref misKept, .ref monces, .int 0, .ref morder, .ref mordered, .int 0, .int 0, .int 0, .int (-1), .int (-1), .ref mtext, .int 0, .int 0, .ref mline, .ref mwritten, .int 0, .int 0, .ref mnode, .int 0, .int 0, .int 0, .int 0])), (mnow, eI G 339 nw0)]) := by
  refine Ci.of (by decide) (Nat.le_of_ble_eq_true rfl) ?_
  intro p e s m below meth c ls A B hw hl
  have C : CallFix p m c cX11_isHearer 2 s _ gw "LanternStateModel" := B.1
  have hl : lv_has ls 2 [(0, .ref qm), (1, .int s9)] := hl
  refine lv_iload_n C.1 C.2.1 dX11_isHearer_0 rfl (lv_at hl 1 rfl) ?_
  refine lv_iconst (v := 0) C.1 C.2.1 dX11_isHearer_1 (by decide) ?_
  refine lv_aload_n C.1 C.2.1 dX11_isHearer_2 rfl (lv_at hl 0 rfl) ?_
  refine x_get C hw iwX11 10 rfl 0 rfl 14 (by decide) kw1211 rfl dX11_isHearer_3 ?_
  refine lv_iconst (v := 1) C.1 C.2.1 dX11_isHearer_6 (by decide) ?_
  refine x_iald (v := 0) C hw 1 rfl (x_in rfl) nw0_1 dX11_isHearer_7 ?_
  refine lv_iconst (v := 1) C.1 C.2.1 dX11_isHearer_8 (by decide) ?_
  refine lv_isub C.1 C.2.1 dX11_isHearer_9 ?_
  refine x_topi (z := (-1)) (by decide) ?_
  refine x_calliS (As := [.int s9, .int 0, .int (-1)]) (rest := []) (wr := [(qm, .inr (10, [.int 0, .ref mtape, .int 0, .int 0, .int 0, .int 0, .int 0, .int 0, .int 0, .int 0, .int 0, .int 0, .long 0, .int 0, .ref mnow, .ref mread, .ref mkept, .ref msnaps, .ref maside, .ref mname, .ref mreadName, .ref mkeptName, .ref misKept, .ref monces, .int 0, .ref morder, .ref mordered, .int 0, .int 0, .int 0, .int (-1), .int (-1), .ref mtext, .int 0, .int 0, .ref mline, .ref mwritten, .int 0, .int 0, .ref mnode, .int 0, .int 0, .int 0, .int 0])), (mnow, eI G 339 nw0)]) C hw (c_X11_isInF s9 0 (-1) (x_em _)) mwX11_isIn kw1400 [] [0, 1] rfl rfl rfl rfl (by decide) rfl hl.1 rfl (Nat.le_of_ble_eq_true rfl) ⟨(Nat.le_of_ble_eq_true rfl), (Nat.le_of_ble_eq_true rfl)⟩ ⟨(Nat.le_of_ble_eq_true rfl), (Nat.le_of_ble_eq_true rfl)⟩ dX11_isHearer_10 (fun r1 u9 H locs hp9 hw => ?_)
  obtain ⟨rfl, rfl⟩ := hp9
  have hw : Wd G s A [(qm, .inr (10, [.int 0, .ref mtape, .int 0, .int 0, .int 0, .int 0, .int 0, .int 0, .int 0, .int 0, .int 0, .int 0, .long 0, .int 0, .ref mnow, .ref mread, .ref mkept, .ref msnaps, .ref maside, .ref mname, .ref mreadName, .ref mkeptName, .ref misKept, .ref monces, .int 0, .ref morder, .ref mordered, .int 0, .int 0, .int 0, .int (-1), .int (-1), .ref mtext, .int 0, .int 0, .ref mline, .ref mwritten, .int 0, .int 0, .ref mnode, .int 0, .int 0, .int 0, .int 0])), (mnow, eI G 339 nw0)] H _ := hw
  exact x_retz B hw rfl ⟨rfl, rfl⟩ (Nat.le_of_ble_eq_true rfl) (Nat.le_of_ble_eq_true rfl) dX11_isHearer_13
theorem dX11_come_0 : decode cX11_come 0 = .ok (.bipush 24, 2) := by decide +kernel
theorem dX11_come_2 : decode cX11_come 2 = .ok (.istore_n 2, 1) := by decide +kernel
theorem dX11_come_3 : decode cX11_come 3 = .ok (.iload_n 2, 1) := by decide +kernel
theorem dX11_come_4 : decode cX11_come 4 = .ok (.ifCond .lt 35, 3) := by decide +kernel
theorem dX11_come_7 : decode cX11_come 7 = .ok (.aload_n 0, 1) := by decide +kernel
theorem dX11_come_8 : decode cX11_come 8 = .ok (.getfield 7, 3) := by decide +kernel
theorem dX11_come_11 : decode cX11_come 11 = .ok (.aload_n 0, 1) := by decide +kernel
theorem dX11_come_12 : decode cX11_come 12 = .ok (.getfield 11, 3) := by decide +kernel
theorem dX11_come_15 : decode cX11_come 15 = .ok (.iload_n 1, 1) := by decide +kernel
theorem dX11_come_16 : decode cX11_come 16 = .ok (.iload_n 2, 1) := by decide +kernel
theorem dX11_come_17 : decode cX11_come 17 = .ok (.iushr, 1) := by decide +kernel
theorem dX11_come_18 : decode cX11_come 18 = .ok (.sipush 255, 3) := by decide +kernel
theorem dX11_come_21 : decode cX11_come 21 = .ok (.iand, 1) := by decide +kernel
theorem dX11_come_22 : decode cX11_come 22 = .ok (.iastore, 1) := by decide +kernel
theorem dX11_come_23 : decode cX11_come 23 = .ok (.aload_n 0, 1) := by decide +kernel
theorem dX11_come_24 : decode cX11_come 24 = .ok (.dup, 1) := by decide +kernel
theorem dX11_come_25 : decode cX11_come 25 = .ok (.getfield 11, 3) := by decide +kernel
theorem dX11_come_28 : decode cX11_come 28 = .ok (.iconst 1, 1) := by decide +kernel
theorem dX11_come_29 : decode cX11_come 29 = .ok (.iadd, 1) := by decide +kernel
theorem dX11_come_30 : decode cX11_come 30 = .ok (.putfield 11, 3) := by decide +kernel
theorem dX11_come_33 : decode cX11_come 33 = .ok (.iinc 2 (-8), 3) := by decide +kernel
theorem dX11_come_36 : decode cX11_come 36 = .ok (.goto (-33), 3) := by decide +kernel
theorem dX11_come_39 : decode cX11_come 39 = .ok (.return_, 1) := by decide +kernel
set_option maxHeartbeats 4000000 in
set_option maxRecDepth 100000 in
theorem c_X11_come0 {l : Launch} {G : Gc} (qm : Nat) (w9 : Int32) (mtape : Nat) (mnow : Nat) (mread : Nat) (mkept : Nat) (msnaps : Nat) (maside : Nat) (mname : Nat) (mreadName : Nat) (mkeptName : Nat) (misKept : Nat) (monces : Nat) (morder : Nat) (mordered : Nat) (mtext : Nat) (mline : Nat) (mwritten : Nat) (mnode : Nat) (ft : Nat → Int32)  : Cv l yX11_come cX11_come 3 0 0 0 G [.ref qm, .int w9] [(qm, .inr (10, [.int 0, .ref mtape, .int 0, .int 0, .int 0, .int 0, .int 0, .int 0, .int 0, .int 0, .int 0, .int 0, .long 0, .int 0, .ref mnow, .ref mread, .ref mkept, .ref msnaps, .ref maside, .ref mname, .ref mreadName, .ref mkeptName, .ref misKept, .ref monces, .int 0, .ref morder, .ref mordered, .int 0, .int 0, .int 0, .int (-1), .int (-1), .ref mtext, .int 0, .int 0, .ref mline, .ref mwritten, .int 0, .int 0, .ref mnode, .int 0, .int 0, .int 0, .int 0])), (mtape, eI G 940 ft)] (fun (u9 : va_W) => ∃ (gt : Nat → Int32), u9 = [(qm, .inr (10, [.int 0, .ref mtape, .int 4, .int 0, .int 0, .int 0, .int 0, .int 0, .int 0, .int 0, .int 0, .int 0, .long 0, .int 0, .ref mnow, .ref mread, .ref mkept, .ref msnaps, .ref maside, .ref mname, .ref mreadName, .ref mkeptName, .ref misKept, .ref monces, .int 0, .ref morder, .ref mordered, .int 0, .int 0, .int 0, .int (-1), .int (-1), .ref mtext, .int 0, .int 0, .ref mline, .ref mwritten, .int 0, .int 0, .ref mnode, .int 0, .int 0, .int 0, .int 0])), (mtape, eI G 940 gt)]) := by
  refine Cv.of (by decide) (Nat.le_of_ble_eq_true rfl) ?_
  intro p e s m below meth c ls A B hw hl
  have C : CallFix p m c cX11_come 3 s _ gw "LanternStateModel" := B.1
  have hl : lv_has ls 3 [(0, .ref qm), (1, .int w9)] := hl
  refine lv_bipush (v := 24) C.1 C.2.1 dX11_come_0 (by decide) ?_
  refine lv_istore_n (lv' := [(2, .int 24), (0, .ref qm), (1, .int w9)]) C.1 C.2.1 dX11_come_2 rfl hl (by decide) rfl (fun ls hl => ?_)
  refine lv_iload_n C.1 C.2.1 dX11_come_3 rfl (lv_at hl 0 rfl) ?_
  refine lv_if_lt (tgt := 39) C.1 C.2.1 dX11_come_4 (by decide) (fun h9 => absurd h9 (by decide)) (fun _ => ?_)
  refine lv_aload_n C.1 C.2.1 dX11_come_7 rfl (lv_at hl 1 rfl) ?_
  refine x_get C hw iwX11 10 rfl 0 rfl 1 (by decide) kw1198 rfl dX11_come_8 ?_
  refine lv_aload_n C.1 C.2.1 dX11_come_11 rfl (lv_at hl 1 rfl) ?_
  refine x_get C hw iwX11 10 rfl 0 rfl 2 (by decide) kw1199 rfl dX11_come_12 ?_
  refine lv_iload_n C.1 C.2.1 dX11_come_15 rfl (lv_at hl 2 rfl) ?_
  refine lv_iload_n C.1 C.2.1 dX11_come_16 rfl (lv_at hl 0 rfl) ?_
  refine lv_iushr (v := ((w9.toUInt32 >>> ((24 : Int32).toUInt32 &&& Int32.toUInt32 31)).toInt32)) C.1 C.2.1 dX11_come_17 rfl ?_
  refine lv_sipush (v := 255) C.1 C.2.1 dX11_come_18 (by decide) ?_
  refine lv_iand C.1 C.2.1 dX11_come_21 ?_
  refine x_iast (f' := (upd ft 0 (((w9.toUInt32 >>> ((24 : Int32).toUInt32 &&& Int32.toUInt32 31)).toInt32) &&& 255))) (w' := [(qm, .inr (10, [.int 0, .ref mtape, .int 0, .int 0, .int 0, .int 0, .int 0, .int 0, .int 0, .int 0, .int 0, .int 0, .long 0, .int 0, .ref mnow, .ref mread, .ref mkept, .ref msnaps, .ref maside, .ref mname, .ref mreadName, .ref mkeptName, .ref misKept, .ref monces, .int 0, .ref morder, .ref mordered, .int 0, .int 0, .int 0, .int (-1), .int (-1), .ref mtext, .int 0, .int 0, .ref mline, .ref mwritten, .int 0, .int 0, .ref mnode, .int 0, .int 0, .int 0, .int 0])), (mtape, eI G 940 (upd ft 0 (((w9.toUInt32 >>> ((24 : Int32).toUInt32 &&& Int32.toUInt32 31)).toInt32) &&& 255)))]) C hw 1 rfl (x_in rfl) rfl rfl dX11_come_22 (fun H locs hw => ?_)
  refine lv_aload_n C.1 C.2.1 dX11_come_23 rfl (lv_at hl 1 rfl) ?_
  refine lv_dup C.1 C.2.1 dX11_come_24 rfl ?_
  refine x_get C hw iwX11 10 rfl 0 rfl 2 (by decide) kw1199 rfl dX11_come_25 ?_
  refine lv_iconst (v := 1) C.1 C.2.1 dX11_come_28 (by decide) ?_
  refine lv_iadd C.1 C.2.1 dX11_come_29 ?_
  refine x_topi (z := 1) (by decide) ?_
  refine x_put (w' := [(qm, .inr (10, [.int 0, .ref mtape, .int 1, .int 0, .int 0, .int 0, .int 0, .int 0, .int 0, .int 0, .int 0, .int 0, .long 0, .int 0, .ref mnow, .ref mread, .ref mkept, .ref msnaps, .ref maside, .ref mname, .ref mreadName, .ref mkeptName, .ref misKept, .ref monces, .int 0, .ref morder, .ref mordered, .int 0, .int 0, .int 0, .int (-1), .int (-1), .ref mtext, .int 0, .int 0, .ref mline, .ref mwritten, .int 0, .int 0, .ref mnode, .int 0, .int 0, .int 0, .int 0])), (mtape, eI G 940 (upd ft 0 (((w9.toUInt32 >>> ((24 : Int32).toUInt32 &&& Int32.toUInt32 31)).toInt32) &&& 255)))]) C hw iwX11 tyX11_ok nmX11 10 rfl 0 rfl 2 (by decide) kw1199 rfl rfl rfl (Nat.le_of_ble_eq_true rfl) rfl dX11_come_30 (fun H locs hw => ?_)
  refine lv_iinc (v := 16) (lv' := [(2, .int 16), (0, .ref qm), (1, .int w9)]) C.1 C.2.1 dX11_come_33 hl (k := 0) rfl (by decide) (by decide) rfl (fun ls hl => ?_)
  refine lv_goto (tgt := 3) C.1 C.2.1 dX11_come_36 (by decide) ?_
  refine lv_iload_n C.1 C.2.1 dX11_come_3 rfl (lv_at hl 0 rfl) ?_
  refine lv_if_lt (tgt := 39) C.1 C.2.1 dX11_come_4 (by decide) (fun h9 => absurd h9 (by decide)) (fun _ => ?_)
  refine lv_aload_n C.1 C.2.1 dX11_come_7 rfl (lv_at hl 1 rfl) ?_
  refine x_get C hw iwX11 10 rfl 0 rfl 1 (by decide) kw1198 rfl dX11_come_8 ?_
  refine lv_aload_n C.1 C.2.1 dX11_come_11 rfl (lv_at hl 1 rfl) ?_
  refine x_get C hw iwX11 10 rfl 0 rfl 2 (by decide) kw1199 rfl dX11_come_12 ?_
  refine lv_iload_n C.1 C.2.1 dX11_come_15 rfl (lv_at hl 2 rfl) ?_
  refine lv_iload_n C.1 C.2.1 dX11_come_16 rfl (lv_at hl 0 rfl) ?_
  refine lv_iushr (v := ((w9.toUInt32 >>> ((16 : Int32).toUInt32 &&& Int32.toUInt32 31)).toInt32)) C.1 C.2.1 dX11_come_17 rfl ?_
  refine lv_sipush (v := 255) C.1 C.2.1 dX11_come_18 (by decide) ?_
  refine lv_iand C.1 C.2.1 dX11_come_21 ?_
  refine x_iast (f' := (upd (upd ft 0 (((w9.toUInt32 >>> ((24 : Int32).toUInt32 &&& Int32.toUInt32 31)).toInt32) &&& 255)) 1 (((w9.toUInt32 >>> ((16 : Int32).toUInt32 &&& Int32.toUInt32 31)).toInt32) &&& 255))) (w' := [(qm, .inr (10, [.int 0, .ref mtape, .int 1, .int 0, .int 0, .int 0, .int 0, .int 0, .int 0, .int 0, .int 0, .int 0, .long 0, .int 0, .ref mnow, .ref mread, .ref mkept, .ref msnaps, .ref maside, .ref mname, .ref mreadName, .ref mkeptName, .ref misKept, .ref monces, .int 0, .ref morder, .ref mordered, .int 0, .int 0, .int 0, .int (-1), .int (-1), .ref mtext, .int 0, .int 0, .ref mline, .ref mwritten, .int 0, .int 0, .ref mnode, .int 0, .int 0, .int 0, .int 0])), (mtape, eI G 940 (upd (upd ft 0 (((w9.toUInt32 >>> ((24 : Int32).toUInt32 &&& Int32.toUInt32 31)).toInt32) &&& 255)) 1 (((w9.toUInt32 >>> ((16 : Int32).toUInt32 &&& Int32.toUInt32 31)).toInt32) &&& 255)))]) C hw 1 rfl (x_in rfl) rfl rfl dX11_come_22 (fun H locs hw => ?_)
  refine lv_aload_n C.1 C.2.1 dX11_come_23 rfl (lv_at hl 1 rfl) ?_
  refine lv_dup C.1 C.2.1 dX11_come_24 rfl ?_
  refine x_get C hw iwX11 10 rfl 0 rfl 2 (by decide) kw1199 rfl dX11_come_25 ?_
  refine lv_iconst (v := 1) C.1 C.2.1 dX11_come_28 (by decide) ?_
  refine lv_iadd C.1 C.2.1 dX11_come_29 ?_
  refine x_topi (z := 2) (by decide) ?_
  refine x_put (w' := [(qm, .inr (10, [.int 0, .ref mtape, .int 2, .int 0, .int 0, .int 0, .int 0, .int 0, .int 0, .int 0, .int 0, .int 0, .long 0, .int 0, .ref mnow, .ref mread, .ref mkept, .ref msnaps, .ref maside, .ref mname, .ref mreadName, .ref mkeptName, .ref misKept, .ref monces, .int 0, .ref morder, .ref mordered, .int 0, .int 0, .int 0, .int (-1), .int (-1), .ref mtext, .int 0, .int 0, .ref mline, .ref mwritten, .int 0, .int 0, .ref mnode, .int 0, .int 0, .int 0, .int 0])), (mtape, eI G 940 (upd (upd ft 0 (((w9.toUInt32 >>> ((24 : Int32).toUInt32 &&& Int32.toUInt32 31)).toInt32) &&& 255)) 1 (((w9.toUInt32 >>> ((16 : Int32).toUInt32 &&& Int32.toUInt32 31)).toInt32) &&& 255)))]) C hw iwX11 tyX11_ok nmX11 10 rfl 0 rfl 2 (by decide) kw1199 rfl rfl rfl (Nat.le_of_ble_eq_true rfl) rfl dX11_come_30 (fun H locs hw => ?_)
  refine lv_iinc (v := 8) (lv' := [(2, .int 8), (0, .ref qm), (1, .int w9)]) C.1 C.2.1 dX11_come_33 hl (k := 0) rfl (by decide) (by decide) rfl (fun ls hl => ?_)
  refine lv_goto (tgt := 3) C.1 C.2.1 dX11_come_36 (by decide) ?_
  refine lv_iload_n C.1 C.2.1 dX11_come_3 rfl (lv_at hl 0 rfl) ?_
  refine lv_if_lt (tgt := 39) C.1 C.2.1 dX11_come_4 (by decide) (fun h9 => absurd h9 (by decide)) (fun _ => ?_)
  refine lv_aload_n C.1 C.2.1 dX11_come_7 rfl (lv_at hl 1 rfl) ?_
  refine x_get C hw iwX11 10 rfl 0 rfl 1 (by decide) kw1198 rfl dX11_come_8 ?_
  refine lv_aload_n C.1 C.2.1 dX11_come_11 rfl (lv_at hl 1 rfl) ?_
  refine x_get C hw iwX11 10 rfl 0 rfl 2 (by decide) kw1199 rfl dX11_come_12 ?_
  refine lv_iload_n C.1 C.2.1 dX11_come_15 rfl (lv_at hl 2 rfl) ?_
  refine lv_iload_n C.1 C.2.1 dX11_come_16 rfl (lv_at hl 0 rfl) ?_
  refine lv_iushr (v := ((w9.toUInt32 >>> ((8 : Int32).toUInt32 &&& Int32.toUInt32 31)).toInt32)) C.1 C.2.1 dX11_come_17 rfl ?_
  refine lv_sipush (v := 255) C.1 C.2.1 dX11_come_18 (by decide) ?_
  refine lv_iand C.1 C.2.1 dX11_come_21 ?_
  refine x_iast (f' := (upd (upd (upd ft 0 (((w9.toUInt32 >>> ((24 : Int32).toUInt32 &&& Int32.toUInt32 31)).toInt32) &&& 255)) 1 (((w9.toUInt32 >>> ((16 : Int32).toUInt32 &&& Int32.toUInt32 31)).toInt32) &&& 255)) 2 (((w9.toUInt32 >>> ((8 : Int32).toUInt32 &&& Int32.toUInt32 31)).toInt32) &&& 255))) (w' := [(qm, .inr (10, [.int 0, .ref mtape, .int 2, .int 0, .int 0, .int 0, .int 0, .int 0, .int 0, .int 0, .int 0, .int 0, .long 0, .int 0, .ref mnow, .ref mread, .ref mkept, .ref msnaps, .ref maside, .ref mname, .ref mreadName, .ref mkeptName, .ref misKept, .ref monces, .int 0, .ref morder, .ref mordered, .int 0, .int 0, .int 0, .int (-1), .int (-1), .ref mtext, .int 0, .int 0, .ref mline, .ref mwritten, .int 0, .int 0, .ref mnode, .int 0, .int 0, .int 0, .int 0])), (mtape, eI G 940 (upd (upd (upd ft 0 (((w9.toUInt32 >>> ((24 : Int32).toUInt32 &&& Int32.toUInt32 31)).toInt32) &&& 255)) 1 (((w9.toUInt32 >>> ((16 : Int32).toUInt32 &&& Int32.toUInt32 31)).toInt32) &&& 255)) 2 (((w9.toUInt32 >>> ((8 : Int32).toUInt32 &&& Int32.toUInt32 31)).toInt32) &&& 255)))]) C hw 1 rfl (x_in rfl) rfl rfl dX11_come_22 (fun H locs hw => ?_)
  refine lv_aload_n C.1 C.2.1 dX11_come_23 rfl (lv_at hl 1 rfl) ?_
  refine lv_dup C.1 C.2.1 dX11_come_24 rfl ?_
  refine x_get C hw iwX11 10 rfl 0 rfl 2 (by decide) kw1199 rfl dX11_come_25 ?_
  refine lv_iconst (v := 1) C.1 C.2.1 dX11_come_28 (by decide) ?_
  refine lv_iadd C.1 C.2.1 dX11_come_29 ?_
  refine x_topi (z := 3) (by decide) ?_
  refine x_put (w' := [(qm, .inr (10, [.int 0, .ref mtape, .int 3, .int 0, .int 0, .int 0, .int 0, .int 0, .int 0, .int 0, .int 0, .int 0, .long 0, .int 0, .ref mnow, .ref mread, .ref mkept, .ref msnaps, .ref maside, .ref mname, .ref mreadName, .ref mkeptName, .ref misKept, .ref monces, .int 0, .ref morder, .ref mordered, .int 0, .int 0, .int 0, .int (-1), .int (-1), .ref mtext, .int 0, .int 0, .ref mline, .ref mwritten, .int 0, .int 0, .ref mnode, .int 0, .int 0, .int 0, .int 0])), (mtape, eI G 940 (upd (upd (upd ft 0 (((w9.toUInt32 >>> ((24 : Int32).toUInt32 &&& Int32.toUInt32 31)).toInt32) &&& 255)) 1 (((w9.toUInt32 >>> ((16 : Int32).toUInt32 &&& Int32.toUInt32 31)).toInt32) &&& 255)) 2 (((w9.toUInt32 >>> ((8 : Int32).toUInt32 &&& Int32.toUInt32 31)).toInt32) &&& 255)))]) C hw iwX11 tyX11_ok nmX11 10 rfl 0 rfl 2 (by decide) kw1199 rfl rfl rfl (Nat.le_of_ble_eq_true rfl) rfl dX11_come_30 (fun H locs hw => ?_)
  refine lv_iinc (v := 0) (lv' := [(2, .int 0), (0, .ref qm), (1, .int w9)]) C.1 C.2.1 dX11_come_33 hl (k := 0) rfl (by decide) (by decide) rfl (fun ls hl => ?_)
  refine lv_goto (tgt := 3) C.1 C.2.1 dX11_come_36 (by decide) ?_
  refine lv_iload_n C.1 C.2.1 dX11_come_3 rfl (lv_at hl 0 rfl) ?_
  refine lv_if_lt (tgt := 39) C.1 C.2.1 dX11_come_4 (by decide) (fun h9 => absurd h9 (by decide)) (fun _ => ?_)
  refine lv_aload_n C.1 C.2.1 dX11_come_7 rfl (lv_at hl 1 rfl) ?_
  refine x_get C hw iwX11 10 rfl 0 rfl 1 (by decide) kw1198 rfl dX11_come_8 ?_
  refine lv_aload_n C.1 C.2.1 dX11_come_11 rfl (lv_at hl 1 rfl) ?_
  refine x_get C hw iwX11 10 rfl 0 rfl 2 (by decide) kw1199 rfl dX11_come_12 ?_
  refine lv_iload_n C.1 C.2.1 dX11_come_15 rfl (lv_at hl 2 rfl) ?_
  refine lv_iload_n C.1 C.2.1 dX11_come_16 rfl (lv_at hl 0 rfl) ?_
  refine lv_iushr (v := ((w9.toUInt32 >>> ((0 : Int32).toUInt32 &&& Int32.toUInt32 31)).toInt32)) C.1 C.2.1 dX11_come_17 rfl ?_
  refine lv_sipush (v := 255) C.1 C.2.1 dX11_come_18 (by decide) ?_
  refine lv_iand C.1 C.2.1 dX11_come_21 ?_
  refine x_iast (f' := (upd (upd (upd (upd ft 0 (((w9.toUInt32 >>> ((24 : Int32).toUInt32 &&& Int32.toUInt32 31)).toInt32) &&& 255)) 1 (((w9.toUInt32 >>> ((16 : Int32).toUInt32 &&& Int32.toUInt32 31)).toInt32) &&& 255)) 2 (((w9.toUInt32 >>> ((8 : Int32).toUInt32 &&& Int32.toUInt32 31)).toInt32) &&& 255)) 3 (((w9.toUInt32 >>> ((0 : Int32).toUInt32 &&& Int32.toUInt32 31)).toInt32) &&& 255))) (w' := [(qm, .inr (10, [.int 0, .ref mtape, .int 3, .int 0, .int 0, .int 0, .int 0, .int 0, .int 0, .int 0, .int 0, .int 0, .long 0, .int 0, .ref mnow, .ref mread, .ref mkept, .ref msnaps, .ref maside, .ref mname, .ref mreadName, .ref mkeptName, .ref misKept, .ref monces, .int 0, .ref morder, .ref mordered, .int 0, .int 0, .int 0, .int (-1), .int (-1), .ref mtext, .int 0, .int 0, .ref mline, .ref mwritten, .int 0, .int 0, .ref mnode, .int 0, .int 0, .int 0, .int 0])), (mtape, eI G 940 (upd (upd (upd (upd ft 0 (((w9.toUInt32 >>> ((24 : Int32).toUInt32 &&& Int32.toUInt32 31)).toInt32) &&& 255)) 1 (((w9.toUInt32 >>> ((16 : Int32).toUInt32 &&& Int32.toUInt32 31)).toInt32) &&& 255)) 2 (((w9.toUInt32 >>> ((8 : Int32).toUInt32 &&& Int32.toUInt32 31)).toInt32) &&& 255)) 3 (((w9.toUInt32 >>> ((0 : Int32).toUInt32 &&& Int32.toUInt32 31)).toInt32) &&& 255)))]) C hw 1 rfl (x_in rfl) rfl rfl dX11_come_22 (fun H locs hw => ?_)
  refine lv_aload_n C.1 C.2.1 dX11_come_23 rfl (lv_at hl 1 rfl) ?_
  refine lv_dup C.1 C.2.1 dX11_come_24 rfl ?_
  refine x_get C hw iwX11 10 rfl 0 rfl 2 (by decide) kw1199 rfl dX11_come_25 ?_
  refine lv_iconst (v := 1) C.1 C.2.1 dX11_come_28 (by decide) ?_
  refine lv_iadd C.1 C.2.1 dX11_come_29 ?_
  refine x_topi (z := 4) (by decide) ?_
  refine x_put (w' := [(qm, .inr (10, [.int 0, .ref mtape, .int 4, .int 0, .int 0, .int 0, .int 0, .int 0, .int 0, .int 0, .int 0, .int 0, .long 0, .int 0, .ref mnow, .ref mread, .ref mkept, .ref msnaps, .ref maside, .ref mname, .ref mreadName, .ref mkeptName, .ref misKept, .ref monces, .int 0, .ref morder, .ref mordered, .int 0, .int 0, .int 0, .int (-1), .int (-1), .ref mtext, .int 0, .int 0, .ref mline, .ref mwritten, .int 0, .int 0, .ref mnode, .int 0, .int 0, .int 0, .int 0])), (mtape, eI G 940 (upd (upd (upd (upd ft 0 (((w9.toUInt32 >>> ((24 : Int32).toUInt32 &&& Int32.toUInt32 31)).toInt32) &&& 255)) 1 (((w9.toUInt32 >>> ((16 : Int32).toUInt32 &&& Int32.toUInt32 31)).toInt32) &&& 255)) 2 (((w9.toUInt32 >>> ((8 : Int32).toUInt32 &&& Int32.toUInt32 31)).toInt32) &&& 255)) 3 (((w9.toUInt32 >>> ((0 : Int32).toUInt32 &&& Int32.toUInt32 31)).toInt32) &&& 255)))]) C hw iwX11 tyX11_ok nmX11 10 rfl 0 rfl 2 (by decide) kw1199 rfl rfl rfl (Nat.le_of_ble_eq_true rfl) rfl dX11_come_30 (fun H locs hw => ?_)
  refine lv_iinc (v := (-8)) (lv' := [(2, .int (-8)), (0, .ref qm), (1, .int w9)]) C.1 C.2.1 dX11_come_33 hl (k := 0) rfl (by decide) (by decide) rfl (fun ls hl => ?_)
  refine lv_goto (tgt := 3) C.1 C.2.1 dX11_come_36 (by decide) ?_
  refine lv_iload_n C.1 C.2.1 dX11_come_3 rfl (lv_at hl 0 rfl) ?_
  refine lv_if_lt (tgt := 39) C.1 C.2.1 dX11_come_4 (by decide) (fun _ => ?_) (fun h9 => absurd (by decide) h9)
  exact x_retv B hw ⟨(upd (upd (upd (upd ft 0 (((w9.toUInt32 >>> ((24 : Int32).toUInt32 &&& Int32.toUInt32 31)).toInt32) &&& 255)) 1 (((w9.toUInt32 >>> ((16 : Int32).toUInt32 &&& Int32.toUInt32 31)).toInt32) &&& 255)) 2 (((w9.toUInt32 >>> ((8 : Int32).toUInt32 &&& Int32.toUInt32 31)).toInt32) &&& 255)) 3 (((w9.toUInt32 >>> ((0 : Int32).toUInt32 &&& Int32.toUInt32 31)).toInt32) &&& 255)), rfl⟩ (Nat.le_of_ble_eq_true rfl) (Nat.le_of_ble_eq_true rfl) dX11_come_39
set_option maxHeartbeats 4000000 in
set_option maxRecDepth 100000 in
theorem c_X11_come4 {l : Launch} {G : Gc} (qm : Nat) (w9 : Int32) (mtape : Nat) (mnow : Nat) (mread : Nat) (mkept : Nat) (msnaps : Nat) (maside : Nat) (mname : Nat) (mreadName : Nat) (mkeptName : Nat) (misKept : Nat) (monces : Nat) (morder : Nat) (mordered : Nat) (mtext : Nat) (mline : Nat) (mwritten : Nat) (mnode : Nat) (ft : Nat → Int32)  : Cv l yX11_come cX11_come 3 0 0 0 G [.ref qm, .int w9] [(qm, .inr (10, [.int 0, .ref mtape, .int 4, .int 0, .int 0, .int 0, .int 0, .int 0, .int 0, .int 0, .int 0, .int 0, .long 0, .int 0, .ref mnow, .ref mread, .ref mkept, .ref msnaps, .ref maside, .ref mname, .ref mreadName, .ref mkeptName, .ref misKept, .ref monces, .int 0, .ref morder, .ref mordered, .int 0, .int 0, .int 0, .int (-1), .int (-1), .ref mtext, .int 0, .int 0, .ref mline, .ref mwritten, .int 0, .int 0, .ref mnode, .int 0, .int 0, .int 0, .int 0])), (mtape, eI G 940 ft)] (fun (u9 : va_W) => ∃ (gt : Nat → Int32), u9 = [(qm, .inr (10, [.int 0, .ref mtape, .int 8, .int 0, .int 0, .int 0, .int 0, .int 0, .int 0, .int 0, .int 0, .int 0, .long 0, .int 0, .ref mnow, .ref mread, .ref mkept, .ref msnaps, .ref maside, .ref mname, .ref mreadName, .ref mkeptName, .ref misKept, .ref monces, .int 0, .ref morder, .ref mordered, .int 0, .int 0, .int 0, .int (-1), .int (-1), .ref mtext, .int 0, .int 0, .ref mline, .ref mwritten, .int 0, .int 0, .ref mnode, .int 0, .int 0, .int 0, .int 0])), (mtape, eI G 940 gt)]) := by
  refine Cv.of (by decide) (Nat.le_of_ble_eq_true rfl) ?_
  intro p e s m below meth c ls A B hw hl
  have C : CallFix p m c cX11_come 3 s _ gw "LanternStateModel" := B.1
  have hl : lv_has ls 3 [(0, .ref qm), (1, .int w9)] := hl
  refine lv_bipush (v := 24) C.1 C.2.1 dX11_come_0 (by decide) ?_
  refine lv_istore_n (lv' := [(2, .int 24), (0, .ref qm), (1, .int w9)]) C.1 C.2.1 dX11_come_2 rfl hl (by decide) rfl (fun ls hl => ?_)
  refine lv_iload_n C.1 C.2.1 dX11_come_3 rfl (lv_at hl 0 rfl) ?_
  refine lv_if_lt (tgt := 39) C.1 C.2.1 dX11_come_4 (by decide) (fun h9 => absurd h9 (by decide)) (fun _ => ?_)
  refine lv_aload_n C.1 C.2.1 dX11_come_7 rfl (lv_at hl 1 rfl) ?_
  refine x_get C hw iwX11 10 rfl 0 rfl 1 (by decide) kw1198 rfl dX11_come_8 ?_
  refine lv_aload_n C.1 C.2.1 dX11_come_11 rfl (lv_at hl 1 rfl) ?_
  refine x_get C hw iwX11 10 rfl 0 rfl 2 (by decide) kw1199 rfl dX11_come_12 ?_
  refine lv_iload_n C.1 C.2.1 dX11_come_15 rfl (lv_at hl 2 rfl) ?_
  refine lv_iload_n C.1 C.2.1 dX11_come_16 rfl (lv_at hl 0 rfl) ?_
  refine lv_iushr (v := ((w9.toUInt32 >>> ((24 : Int32).toUInt32 &&& Int32.toUInt32 31)).toInt32)) C.1 C.2.1 dX11_come_17 rfl ?_
  refine lv_sipush (v := 255) C.1 C.2.1 dX11_come_18 (by decide) ?_
  refine lv_iand C.1 C.2.1 dX11_come_21 ?_
  refine x_iast (f' := (upd ft 4 (((w9.toUInt32 >>> ((24 : Int32).toUInt32 &&& Int32.toUInt32 31)).toInt32) &&& 255))) (w' := [(qm, .inr (10, [.int 0, .ref mtape, .int 4, .int 0, .int 0, .int 0, .int 0, .int 0, .int 0, .int 0, .int 0, .int 0, .long 0, .int 0, .ref mnow, .ref mread, .ref mkept, .ref msnaps, .ref maside, .ref mname, .ref mreadName, .ref mkeptName, .ref misKept, .ref monces, .int 0, .ref morder, .ref mordered, .int 0, .int 0, .int 0, .int (-1), .int (-1), .ref mtext, .int 0, .int 0, .ref mline, .ref mwritten, .int 0, .int 0, .ref mnode, .int 0, .int 0, .int 0, .int 0])), (mtape, eI G 940 (upd ft 4 (((w9.toUInt32 >>> ((24 : Int32).toUInt32 &&& Int32.toUInt32 31)).toInt32) &&& 255)))]) C hw 1 rfl (x_in rfl) rfl rfl dX11_come_22 (fun H locs hw => ?_)
  refine lv_aload_n C.1 C.2.1 dX11_come_23 rfl (lv_at hl 1 rfl) ?_
  refine lv_dup C.1 C.2.1 dX11_come_24 rfl ?_
  refine x_get C hw iwX11 10 rfl 0 rfl 2 (by decide) kw1199 rfl dX11_come_25 ?_
  refine lv_iconst (v := 1) C.1 C.2.1 dX11_come_28 (by decide) ?_
  refine lv_iadd C.1 C.2.1 dX11_come_29 ?_
  refine x_topi (z := 5) (by decide) ?_
  refine x_put (w' := [(qm, .inr (10, [.int 0, .ref mtape, .int 5, .int 0, .int 0, .int 0, .int 0, .int 0, .int 0, .int 0, .int 0, .int 0, .long 0, .int 0, .ref mnow, .ref mread, .ref mkept, .ref msnaps, .ref maside, .ref mname, .ref mreadName, .ref mkeptName, .ref misKept, .ref monces, .int 0, .ref morder, .ref mordered, .int 0, .int 0, .int 0, .int (-1), .int (-1), .ref mtext, .int 0, .int 0, .ref mline, .ref mwritten, .int 0, .int 0, .ref mnode, .int 0, .int 0, .int 0, .int 0])), (mtape, eI G 940 (upd ft 4 (((w9.toUInt32 >>> ((24 : Int32).toUInt32 &&& Int32.toUInt32 31)).toInt32) &&& 255)))]) C hw iwX11 tyX11_ok nmX11 10 rfl 0 rfl 2 (by decide) kw1199 rfl rfl rfl (Nat.le_of_ble_eq_true rfl) rfl dX11_come_30 (fun H locs hw => ?_)
  refine lv_iinc (v := 16) (lv' := [(2, .int 16), (0, .ref qm), (1, .int w9)]) C.1 C.2.1 dX11_come_33 hl (k := 0) rfl (by decide) (by decide) rfl (fun ls hl => ?_)
  refine lv_goto (tgt := 3) C.1 C.2.1 dX11_come_36 (by decide) ?_
  refine lv_iload_n C.1 C.2.1 dX11_come_3 rfl (lv_at hl 0 rfl) ?_
  refine lv_if_lt (tgt := 39) C.1 C.2.1 dX11_come_4 (by decide) (fun h9 => absurd h9 (by decide)) (fun _ => ?_)
  refine lv_aload_n C.1 C.2.1 dX11_come_7 rfl (lv_at hl 1 rfl) ?_
  refine x_get C hw iwX11 10 rfl 0 rfl 1 (by decide) kw1198 rfl dX11_come_8 ?_
  refine lv_aload_n C.1 C.2.1 dX11_come_11 rfl (lv_at hl 1 rfl) ?_
  refine x_get C hw iwX11 10 rfl 0 rfl 2 (by decide) kw1199 rfl dX11_come_12 ?_
  refine lv_iload_n C.1 C.2.1 dX11_come_15 rfl (lv_at hl 2 rfl) ?_
  refine lv_iload_n C.1 C.2.1 dX11_come_16 rfl (lv_at hl 0 rfl) ?_
  refine lv_iushr (v := ((w9.toUInt32 >>> ((16 : Int32).toUInt32 &&& Int32.toUInt32 31)).toInt32)) C.1 C.2.1 dX11_come_17 rfl ?_
  refine lv_sipush (v := 255) C.1 C.2.1 dX11_come_18 (by decide) ?_
  refine lv_iand C.1 C.2.1 dX11_come_21 ?_
  refine x_iast (f' := (upd (upd ft 4 (((w9.toUInt32 >>> ((24 : Int32).toUInt32 &&& Int32.toUInt32 31)).toInt32) &&& 255)) 5 (((w9.toUInt32 >>> ((16 : Int32).toUInt32 &&& Int32.toUInt32 31)).toInt32) &&& 255))) (w' := [(qm, .inr (10, [.int 0, .ref mtape, .int 5, .int 0, .int 0, .int 0, .int 0, .int 0, .int 0, .int 0, .int 0, .int 0, .long 0, .int 0, .ref mnow, .ref mread, .ref mkept, .ref msnaps, .ref maside, .ref mname, .ref mreadName, .ref mkeptName, .ref misKept, .ref monces, .int 0, .ref morder, .ref mordered, .int 0, .int 0, .int 0, .int (-1), .int (-1), .ref mtext, .int 0, .int 0, .ref mline, .ref mwritten, .int 0, .int 0, .ref mnode, .int 0, .int 0, .int 0, .int 0])), (mtape, eI G 940 (upd (upd ft 4 (((w9.toUInt32 >>> ((24 : Int32).toUInt32 &&& Int32.toUInt32 31)).toInt32) &&& 255)) 5 (((w9.toUInt32 >>> ((16 : Int32).toUInt32 &&& Int32.toUInt32 31)).toInt32) &&& 255)))]) C hw 1 rfl (x_in rfl) rfl rfl dX11_come_22 (fun H locs hw => ?_)
  refine lv_aload_n C.1 C.2.1 dX11_come_23 rfl (lv_at hl 1 rfl) ?_
  refine lv_dup C.1 C.2.1 dX11_come_24 rfl ?_
  refine x_get C hw iwX11 10 rfl 0 rfl 2 (by decide) kw1199 rfl dX11_come_25 ?_
  refine lv_iconst (v := 1) C.1 C.2.1 dX11_come_28 (by decide) ?_
  refine lv_iadd C.1 C.2.1 dX11_come_29 ?_
  refine x_topi (z := 6) (by decide) ?_
  refine x_put (w' := [(qm, .inr (10, [.int 0, .ref mtape, .int 6, .int 0, .int 0, .int 0, .int 0, .int 0, .int 0, .int 0, .int 0, .int 0, .long 0, .int 0, .ref mnow, .ref mread, .ref mkept, .ref msnaps, .ref maside, .ref mname, .ref mreadName, .ref mkeptName, .ref misKept, .ref monces, .int 0, .ref morder, .ref mordered, .int 0, .int 0, .int 0, .int (-1), .int (-1), .ref mtext, .int 0, .int 0, .ref mline, .ref mwritten, .int 0, .int 0, .ref mnode, .int 0, .int 0, .int 0, .int 0])), (mtape, eI G 940 (upd (upd ft 4 (((w9.toUInt32 >>> ((24 : Int32).toUInt32 &&& Int32.toUInt32 31)).toInt32) &&& 255)) 5 (((w9.toUInt32 >>> ((16 : Int32).toUInt32 &&& Int32.toUInt32 31)).toInt32) &&& 255)))]) C hw iwX11 tyX11_ok nmX11 10 rfl 0 rfl 2 (by decide) kw1199 rfl rfl rfl (Nat.le_of_ble_eq_true rfl) rfl dX11_come_30 (fun H locs hw => ?_)
  refine lv_iinc (v := 8) (lv' := [(2, .int 8), (0, .ref qm), (1, .int w9)]) C.1 C.2.1 dX11_come_33 hl (k := 0) rfl (by decide) (by decide) rfl (fun ls hl => ?_)
  refine lv_goto (tgt := 3) C.1 C.2.1 dX11_come_36 (by decide) ?_
  refine lv_iload_n C.1 C.2.1 dX11_come_3 rfl (lv_at hl 0 rfl) ?_
  refine lv_if_lt (tgt := 39) C.1 C.2.1 dX11_come_4 (by decide) (fun h9 => absurd h9 (by decide)) (fun _ => ?_)
  refine lv_aload_n C.1 C.2.1 dX11_come_7 rfl (lv_at hl 1 rfl) ?_
  refine x_get C hw iwX11 10 rfl 0 rfl 1 (by decide) kw1198 rfl dX11_come_8 ?_
  refine lv_aload_n C.1 C.2.1 dX11_come_11 rfl (lv_at hl 1 rfl) ?_
  refine x_get C hw iwX11 10 rfl 0 rfl 2 (by decide) kw1199 rfl dX11_come_12 ?_
  refine lv_iload_n C.1 C.2.1 dX11_come_15 rfl (lv_at hl 2 rfl) ?_
  refine lv_iload_n C.1 C.2.1 dX11_come_16 rfl (lv_at hl 0 rfl) ?_
  refine lv_iushr (v := ((w9.toUInt32 >>> ((8 : Int32).toUInt32 &&& Int32.toUInt32 31)).toInt32)) C.1 C.2.1 dX11_come_17 rfl ?_
  refine lv_sipush (v := 255) C.1 C.2.1 dX11_come_18 (by decide) ?_
  refine lv_iand C.1 C.2.1 dX11_come_21 ?_
  refine x_iast (f' := (upd (upd (upd ft 4 (((w9.toUInt32 >>> ((24 : Int32).toUInt32 &&& Int32.toUInt32 31)).toInt32) &&& 255)) 5 (((w9.toUInt32 >>> ((16 : Int32).toUInt32 &&& Int32.toUInt32 31)).toInt32) &&& 255)) 6 (((w9.toUInt32 >>> ((8 : Int32).toUInt32 &&& Int32.toUInt32 31)).toInt32) &&& 255))) (w' := [(qm, .inr (10, [.int 0, .ref mtape, .int 6, .int 0, .int 0, .int 0, .int 0, .int 0, .int 0, .int 0, .int 0, .int 0, .long 0, .int 0, .ref mnow, .ref mread, .ref mkept, .ref msnaps, .ref maside, .ref mname, .ref mreadName, .ref mkeptName, .ref misKept, .ref monces, .int 0, .ref morder, .ref mordered, .int 0, .int 0, .int 0, .int (-1), .int (-1), .ref mtext, .int 0, .int 0, .ref mline, .ref mwritten, .int 0, .int 0, .ref mnode, .int 0, .int 0, .int 0, .int 0])), (mtape, eI G 940 (upd (upd (upd ft 4 (((w9.toUInt32 >>> ((24 : Int32).toUInt32 &&& Int32.toUInt32 31)).toInt32) &&& 255)) 5 (((w9.toUInt32 >>> ((16 : Int32).toUInt32 &&& Int32.toUInt32 31)).toInt32) &&& 255)) 6 (((w9.toUInt32 >>> ((8 : Int32).toUInt32 &&& Int32.toUInt32 31)).toInt32) &&& 255)))]) C hw 1 rfl (x_in rfl) rfl rfl dX11_come_22 (fun H locs hw => ?_)
  refine lv_aload_n C.1 C.2.1 dX11_come_23 rfl (lv_at hl 1 rfl) ?_
  refine lv_dup C.1 C.2.1 dX11_come_24 rfl ?_
  refine x_get C hw iwX11 10 rfl 0 rfl 2 (by decide) kw1199 rfl dX11_come_25 ?_
  refine lv_iconst (v := 1) C.1 C.2.1 dX11_come_28 (by decide) ?_
  refine lv_iadd C.1 C.2.1 dX11_come_29 ?_
  refine x_topi (z := 7) (by decide) ?_
  refine x_put (w' := [(qm, .inr (10, [.int 0, .ref mtape, .int 7, .int 0, .int 0, .int 0, .int 0, .int 0, .int 0, .int 0, .int 0, .int 0, .long 0, .int 0, .ref mnow, .ref mread, .ref mkept, .ref msnaps, .ref maside, .ref mname, .ref mreadName, .ref mkeptName, .ref misKept, .ref monces, .int 0, .ref morder, .ref mordered, .int 0, .int 0, .int 0, .int (-1), .int (-1), .ref mtext, .int 0, .int 0, .ref mline, .ref mwritten, .int 0, .int 0, .ref mnode, .int 0, .int 0, .int 0, .int 0])), (mtape, eI G 940 (upd (upd (upd ft 4 (((w9.toUInt32 >>> ((24 : Int32).toUInt32 &&& Int32.toUInt32 31)).toInt32) &&& 255)) 5 (((w9.toUInt32 >>> ((16 : Int32).toUInt32 &&& Int32.toUInt32 31)).toInt32) &&& 255)) 6 (((w9.toUInt32 >>> ((8 : Int32).toUInt32 &&& Int32.toUInt32 31)).toInt32) &&& 255)))]) C hw iwX11 tyX11_ok nmX11 10 rfl 0 rfl 2 (by decide) kw1199 rfl rfl rfl (Nat.le_of_ble_eq_true rfl) rfl dX11_come_30 (fun H locs hw => ?_)
  refine lv_iinc (v := 0) (lv' := [(2, .int 0), (0, .ref qm), (1, .int w9)]) C.1 C.2.1 dX11_come_33 hl (k := 0) rfl (by decide) (by decide) rfl (fun ls hl => ?_)
  refine lv_goto (tgt := 3) C.1 C.2.1 dX11_come_36 (by decide) ?_
  refine lv_iload_n C.1 C.2.1 dX11_come_3 rfl (lv_at hl 0 rfl) ?_
  refine lv_if_lt (tgt := 39) C.1 C.2.1 dX11_come_4 (by decide) (fun h9 => absurd h9 (by decide)) (fun _ => ?_)
  refine lv_aload_n C.1 C.2.1 dX11_come_7 rfl (lv_at hl 1 rfl) ?_
  refine x_get C hw iwX11 10 rfl 0 rfl 1 (by decide) kw1198 rfl dX11_come_8 ?_
  refine lv_aload_n C.1 C.2.1 dX11_come_11 rfl (lv_at hl 1 rfl) ?_
  refine x_get C hw iwX11 10 rfl 0 rfl 2 (by decide) kw1199 rfl dX11_come_12 ?_
  refine lv_iload_n C.1 C.2.1 dX11_come_15 rfl (lv_at hl 2 rfl) ?_
  refine lv_iload_n C.1 C.2.1 dX11_come_16 rfl (lv_at hl 0 rfl) ?_
  refine lv_iushr (v := ((w9.toUInt32 >>> ((0 : Int32).toUInt32 &&& Int32.toUInt32 31)).toInt32)) C.1 C.2.1 dX11_come_17 rfl ?_
  refine lv_sipush (v := 255) C.1 C.2.1 dX11_come_18 (by decide) ?_
  refine lv_iand C.1 C.2.1 dX11_come_21 ?_
  refine x_iast (f' := (upd (upd (upd (upd ft 4 (((w9.toUInt32 >>> ((24 : Int32).toUInt32 &&& Int32.toUInt32 31)).toInt32) &&& 255)) 5 (((w9.toUInt32 >>> ((16 : Int32).toUInt32 &&& Int32.toUInt32 31)).toInt32) &&& 255)) 6 (((w9.toUInt32 >>> ((8 : Int32).toUInt32 &&& Int32.toUInt32 31)).toInt32) &&& 255)) 7 (((w9.toUInt32 >>> ((0 : Int32).toUInt32 &&& Int32.toUInt32 31)).toInt32) &&& 255))) (w' := [(qm, .inr (10, [.int 0, .ref mtape, .int 7, .int 0, .int 0, .int 0, .int 0, .int 0, .int 0, .int 0, .int 0, .int 0, .long 0, .int 0, .ref mnow, .ref mread, .ref mkept, .ref msnaps, .ref maside, .ref mname, .ref mreadName, .ref mkeptName, .ref misKept, .ref monces, .int 0, .ref morder, .ref mordered, .int 0, .int 0, .int 0, .int (-1), .int (-1), .ref mtext, .int 0, .int 0, .ref mline, .ref mwritten, .int 0, .int 0, .ref mnode, .int 0, .int 0, .int 0, .int 0])), (mtape, eI G 940 (upd (upd (upd (upd ft 4 (((w9.toUInt32 >>> ((24 : Int32).toUInt32 &&& Int32.toUInt32 31)).toInt32) &&& 255)) 5 (((w9.toUInt32 >>> ((16 : Int32).toUInt32 &&& Int32.toUInt32 31)).toInt32) &&& 255)) 6 (((w9.toUInt32 >>> ((8 : Int32).toUInt32 &&& Int32.toUInt32 31)).toInt32) &&& 255)) 7 (((w9.toUInt32 >>> ((0 : Int32).toUInt32 &&& Int32.toUInt32 31)).toInt32) &&& 255)))]) C hw 1 rfl (x_in rfl) rfl rfl dX11_come_22 (fun H locs hw => ?_)
  refine lv_aload_n C.1 C.2.1 dX11_come_23 rfl (lv_at hl 1 rfl) ?_
  refine lv_dup C.1 C.2.1 dX11_come_24 rfl ?_
  refine x_get C hw iwX11 10 rfl 0 rfl 2 (by decide) kw1199 rfl dX11_come_25 ?_
  refine lv_iconst (v := 1) C.1 C.2.1 dX11_come_28 (by decide) ?_
  refine lv_iadd C.1 C.2.1 dX11_come_29 ?_
  refine x_topi (z := 8) (by decide) ?_
  refine x_put (w' := [(qm, .inr (10, [.int 0, .ref mtape, .int 8, .int 0, .int 0, .int 0, .int 0, .int 0, .int 0, .int 0, .int 0, .int 0, .long 0, .int 0, .ref mnow, .ref mread, .ref mkept, .ref msnaps, .ref maside, .ref mname, .ref mreadName, .ref mkeptName, .ref misKept, .ref monces, .int 0, .ref morder, .ref mordered, .int 0, .int 0, .int 0, .int (-1), .int (-1), .ref mtext, .int 0, .int 0, .ref mline, .ref mwritten, .int 0, .int 0, .ref mnode, .int 0, .int 0, .int 0, .int 0])), (mtape, eI G 940 (upd (upd (upd (upd ft 4 (((w9.toUInt32 >>> ((24 : Int32).toUInt32 &&& Int32.toUInt32 31)).toInt32) &&& 255)) 5 (((w9.toUInt32 >>> ((16 : Int32).toUInt32 &&& Int32.toUInt32 31)).toInt32) &&& 255)) 6 (((w9.toUInt32 >>> ((8 : Int32).toUInt32 &&& Int32.toUInt32 31)).toInt32) &&& 255)) 7 (((w9.toUInt32 >>> ((0 : Int32).toUInt32 &&& Int32.toUInt32 31)).toInt32) &&& 255)))]) C hw iwX11 tyX11_ok nmX11 10 rfl 0 rfl 2 (by decide) kw1199 rfl rfl rfl (Nat.le_of_ble_eq_true rfl) rfl dX11_come_30 (fun H locs hw => ?_)
  refine lv_iinc (v := (-8)) (lv' := [(2, .int (-8)), (0, .ref qm), (1, .int w9)]) C.1 C.2.1 dX11_come_33 hl (k := 0) rfl (by decide) (by decide) rfl (fun ls hl => ?_)
  refine lv_goto (tgt := 3) C.1 C.2.1 dX11_come_36 (by decide) ?_
  refine lv_iload_n C.1 C.2.1 dX11_come_3 rfl (lv_at hl 0 rfl) ?_
  refine lv_if_lt (tgt := 39) C.1 C.2.1 dX11_come_4 (by decide) (fun _ => ?_) (fun h9 => absurd (by decide) h9)
  exact x_retv B hw ⟨(upd (upd (upd (upd ft 4 (((w9.toUInt32 >>> ((24 : Int32).toUInt32 &&& Int32.toUInt32 31)).toInt32) &&& 255)) 5 (((w9.toUInt32 >>> ((16 : Int32).toUInt32 &&& Int32.toUInt32 31)).toInt32) &&& 255)) 6 (((w9.toUInt32 >>> ((8 : Int32).toUInt32 &&& Int32.toUInt32 31)).toInt32) &&& 255)) 7 (((w9.toUInt32 >>> ((0 : Int32).toUInt32 &&& Int32.toUInt32 31)).toInt32) &&& 255)), rfl⟩ (Nat.le_of_ble_eq_true rfl) (Nat.le_of_ble_eq_true rfl) dX11_come_39
set_option maxHeartbeats 4000000 in
set_option maxRecDepth 100000 in
theorem c_X11_come8 {l : Launch} {G : Gc} (qm : Nat) (w9 : Int32) (mtape : Nat) (mnow : Nat) (mread : Nat) (mkept : Nat) (msnaps : Nat) (maside : Nat) (mname : Nat) (mreadName : Nat) (mkeptName : Nat) (misKept : Nat) (monces : Nat) (morder : Nat) (mordered : Nat) (mtext : Nat) (mline : Nat) (mwritten : Nat) (mnode : Nat) (ft : Nat → Int32)  : Cv l yX11_come cX11_come 3 0 0 0 G [.ref qm, .int w9] [(qm, .inr (10, [.int 0, .ref mtape, .int 8, .int 0, .int 0, .int 0, .int 0, .int 0, .int 0, .int 0, .int 0, .int 0, .long 0, .int 0, .ref mnow, .ref mread, .ref mkept, .ref msnaps, .ref maside, .ref mname, .ref mreadName, .ref mkeptName, .ref misKept, .ref monces, .int 0, .ref morder, .ref mordered, .int 0, .int 0, .int 0, .int (-1), .int (-1), .ref mtext, .int 0, .int 0, .ref mline, .ref mwritten, .int 0, .int 0, .ref mnode, .int 0, .int 0, .int 0, .int 0])), (mtape, eI G 940 ft)] (fun (u9 : va_W) => ∃ (gt : Nat → Int32), u9 = [(qm, .inr (10, [.int 0, .ref mtape, .int 12, .int 0, .int 0, .int 0, .int 0, .int 0, .int 0, .int 0, .int 0, .int 0, .long 0, .int 0, .ref mnow, .ref mread, .ref mkept, .ref msnaps, .ref maside, .ref mname, .ref mreadName, .ref mkeptName, .ref misKept, .ref monces, .int 0, .ref morder, .ref mordered, .int 0, .int 0, .int 0, .int (-1), .int (-1), .ref mtext, .int 0, .int 0, .ref mline, .ref mwritten, .int 0, .int 0, .ref mnode, .int 0, .int 0, .int 0, .int 0])), (mtape, eI G 940 gt)]) := by
  refine Cv.of (by decide) (Nat.le_of_ble_eq_true rfl) ?_
  intro p e s m below meth c ls A B hw hl
  have C : CallFix p m c cX11_come 3 s _ gw "LanternStateModel" := B.1
  have hl : lv_has ls 3 [(0, .ref qm), (1, .int w9)] := hl
  refine lv_bipush (v := 24) C.1 C.2.1 dX11_come_0 (by decide) ?_
  refine lv_istore_n (lv' := [(2, .int 24), (0, .ref qm), (1, .int w9)]) C.1 C.2.1 dX11_come_2 rfl hl (by decide) rfl (fun ls hl => ?_)
  refine lv_iload_n C.1 C.2.1 dX11_come_3 rfl (lv_at hl 0 rfl) ?_
  refine lv_if_lt (tgt := 39) C.1 C.2.1 dX11_come_4 (by decide) (fun h9 => absurd h9 (by decide)) (fun _ => ?_)
  refine lv_aload_n C.1 C.2.1 dX11_come_7 rfl (lv_at hl 1 rfl) ?_
  refine x_get C hw iwX11 10 rfl 0 rfl 1 (by decide) kw1198 rfl dX11_come_8 ?_
  refine lv_aload_n C.1 C.2.1 dX11_come_11 rfl (lv_at hl 1 rfl) ?_
  refine x_get C hw iwX11 10 rfl 0 rfl 2 (by decide) kw1199 rfl dX11_come_12 ?_
  refine lv_iload_n C.1 C.2.1 dX11_come_15 rfl (lv_at hl 2 rfl) ?_
  refine lv_iload_n C.1 C.2.1 dX11_come_16 rfl (lv_at hl 0 rfl) ?_
  refine lv_iushr (v := ((w9.toUInt32 >>> ((24 : Int32).toUInt32 &&& Int32.toUInt32 31)).toInt32)) C.1 C.2.1 dX11_come_17 rfl ?_
  refine lv_sipush (v := 255) C.1 C.2.1 dX11_come_18 (by decide) ?_
  refine lv_iand C.1 C.2.1 dX11_come_21 ?_
  refine x_iast (f' := (upd ft 8 (((w9.toUInt32 >>> ((24 : Int32).toUInt32 &&& Int32.toUInt32 31)).toInt32) &&& 255))) (w' := [(qm, .inr (10, [.int 0, .ref mtape, .int 8, .int 0, .int 0, .int 0, .int 0, .int 0, .int 0, .int 0, .int 0, .int 0, .long 0, .int 0, .ref mnow, .ref mread, .ref mkept, .ref msnaps, .ref maside, .ref mname, .ref mreadName, .ref mkeptName, .ref misKept, .ref monces, .int 0, .ref morder, .ref mordered, .int 0, .int 0, .int 0, .int (-1), .int (-1), .ref mtext, .int 0, .int 0, .ref mline, .ref mwritten, .int 0, .int 0, .ref mnode, .int 0, .int 0, .int 0, .int 0])), (mtape, eI G 940 (upd ft 8 (((w9.toUInt32 >>> ((24 : Int32).toUInt32 &&& Int32.toUInt32 31)).toInt32) &&& 255)))]) C hw 1 rfl (x_in rfl) rfl rfl dX11_come_22 (fun H locs hw => ?_)
  refine lv_aload_n C.1 C.2.1 dX11_come_23 rfl (lv_at hl 1 rfl) ?_
  refine lv_dup C.1 C.2.1 dX11_come_24 rfl ?_
  refine x_get C hw iwX11 10 rfl 0 rfl 2 (by decide) kw1199 rfl dX11_come_25 ?_
  refine lv_iconst (v := 1) C.1 C.2.1 dX11_come_28 (by decide) ?_
  refine lv_iadd C.1 C.2.1 dX11_come_29 ?_
  refine x_topi (z := 9) (by decide) ?_
  refine x_put (w' := [(qm, .inr (10, [.int 0, .ref mtape, .int 9, .int 0, .int 0, .int 0, .int 0, .int 0, .int 0, .int 0, .int 0, .int 0, .long 0, .int 0, .ref mnow, .ref mread, .ref mkept, .ref msnaps, .ref maside, .ref mname, .ref mreadName, .ref mkeptName, .ref misKept, .ref monces, .int 0, .ref morder, .ref mordered, .int 0, .int 0, .int 0, .int (-1), .int (-1), .ref mtext, .int 0, .int 0, .ref mline, .ref mwritten, .int 0, .int 0, .ref mnode, .int 0, .int 0, .int 0, .int 0])), (mtape, eI G 940 (upd ft 8 (((w9.toUInt32 >>> ((24 : Int32).toUInt32 &&& Int32.toUInt32 31)).toInt32) &&& 255)))]) C hw iwX11 tyX11_ok nmX11 10 rfl 0 rfl 2 (by decide) kw1199 rfl rfl rfl (Nat.le_of_ble_eq_true rfl) rfl dX11_come_30 (fun H locs hw => ?_)
  refine lv_iinc (v := 16) (lv' := [(2, .int 16), (0, .ref qm), (1, .int w9)]) C.1 C.2.1 dX11_come_33 hl (k := 0) rfl (by decide) (by decide) rfl (fun ls hl => ?_)
  refine lv_goto (tgt := 3) C.1 C.2.1 dX11_come_36 (by decide) ?_
  refine lv_iload_n C.1 C.2.1 dX11_come_3 rfl (lv_at hl 0 rfl) ?_
  refine lv_if_lt (tgt := 39) C.1 C.2.1 dX11_come_4 (by decide) (fun h9 => absurd h9 (by decide)) (fun _ => ?_)
  refine lv_aload_n C.1 C.2.1 dX11_come_7 rfl (lv_at hl 1 rfl) ?_
  refine x_get C hw iwX11 10 rfl 0 rfl 1 (by decide) kw1198 rfl dX11_come_8 ?_
  refine lv_aload_n C.1 C.2.1 dX11_come_11 rfl (lv_at hl 1 rfl) ?_
  refine x_get C hw iwX11 10 rfl 0 rfl 2 (by decide) kw1199 rfl dX11_come_12 ?_
  refine lv_iload_n C.1 C.2.1 dX11_come_15 rfl (lv_at hl 2 rfl) ?_
  refine lv_iload_n C.1 C.2.1 dX11_come_16 rfl (lv_at hl 0 rfl) ?_
  refine lv_iushr (v := ((w9.toUInt32 >>> ((16 : Int32).toUInt32 &&& Int32.toUInt32 31)).toInt32)) C.1 C.2.1 dX11_come_17 rfl ?_
  refine lv_sipush (v := 255) C.1 C.2.1 dX11_come_18 (by decide) ?_
  refine lv_iand C.1 C.2.1 dX11_come_21 ?_
  refine x_iast (f' := (upd (upd ft 8 (((w9.toUInt32 >>> ((24 : Int32).toUInt32 &&& Int32.toUInt32 31)).toInt32) &&& 255)) 9 (((w9.toUInt32 >>> ((16 : Int32).toUInt32 &&& Int32.toUInt32 31)).toInt32) &&& 255))) (w' := [(qm, .inr (10, [.int 0, .ref mtape, .int 9, .int 0, .int 0, .int 0, .int 0, .int 0, .int 0, .int 0, .int 0, .int 0, .long 0, .int 0, .ref mnow, .ref mread, .ref mkept, .ref msnaps, .ref maside, .ref mname, .ref mreadName, .ref mkeptName, .ref misKept, .ref monces, .int 0, .ref morder, .ref mordered, .int 0, .int 0, .int 0, .int (-1), .int (-1), .ref mtext, .int 0, .int 0, .ref mline, .ref mwritten, .int 0, .int 0, .ref mnode, .int 0, .int 0, .int 0, .int 0])), (mtape, eI G 940 (upd (upd ft 8 (((w9.toUInt32 >>> ((24 : Int32).toUInt32 &&& Int32.toUInt32 31)).toInt32) &&& 255)) 9 (((w9.toUInt32 >>> ((16 : Int32).toUInt32 &&& Int32.toUInt32 31)).toInt32) &&& 255)))]) C hw 1 rfl (x_in rfl) rfl rfl dX11_come_22 (fun H locs hw => ?_)
  refine lv_aload_n C.1 C.2.1 dX11_come_23 rfl (lv_at hl 1 rfl) ?_
  refine lv_dup C.1 C.2.1 dX11_come_24 rfl ?_
  refine x_get C hw iwX11 10 rfl 0 rfl 2 (by decide) kw1199 rfl dX11_come_25 ?_
  refine lv_iconst (v := 1) C.1 C.2.1 dX11_come_28 (by decide) ?_
  refine lv_iadd C.1 C.2.1 dX11_come_29 ?_
  refine x_topi (z := 10) (by decide) ?_
  refine x_put (w' := [(qm, .inr (10, [.int 0, .ref mtape, .int 10, .int 0, .int 0, .int 0, .int 0, .int 0, .int 0, .int 0, .int 0, .int 0, .long 0, .int 0, .ref mnow, .ref mread, .ref mkept, .ref msnaps, .ref maside, .ref mname, .ref mreadName, .ref mkeptName, .ref misKept, .ref monces, .int 0, .ref morder, .ref mordered, .int 0, .int 0, .int 0, .int (-1), .int (-1), .ref mtext, .int 0, .int 0, .ref mline, .ref mwritten, .int 0, .int 0, .ref mnode, .int 0, .int 0, .int 0, .int 0])), (mtape, eI G 940 (upd (upd ft 8 (((w9.toUInt32 >>> ((24 : Int32).toUInt32 &&& Int32.toUInt32 31)).toInt32) &&& 255)) 9 (((w9.toUInt32 >>> ((16 : Int32).toUInt32 &&& Int32.toUInt32 31)).toInt32) &&& 255)))]) C hw iwX11 tyX11_ok nmX11 10 rfl 0 rfl 2 (by decide) kw1199 rfl rfl rfl (Nat.le_of_ble_eq_true rfl) rfl dX11_come_30 (fun H locs hw => ?_)
  refine lv_iinc (v := 8) (lv' := [(2, .int 8), (0, .ref qm), (1, .int w9)]) C.1 C.2.1 dX11_come_33 hl (k := 0) rfl (by decide) (by decide) rfl (fun ls hl => ?_)
  refine lv_goto (tgt := 3) C.1 C.2.1 dX11_come_36 (by decide) ?_
  refine lv_iload_n C.1 C.2.1 dX11_come_3 rfl (lv_at hl 0 rfl) ?_
  refine lv_if_lt (tgt := 39) C.1 C.2.1 dX11_come_4 (by decide) (fun h9 => absurd h9 (by decide)) (fun _ => ?_)
  refine lv_aload_n C.1 C.2.1 dX11_come_7 rfl (lv_at hl 1 rfl) ?_
  refine x_get C hw iwX11 10 rfl 0 rfl 1 (by decide) kw1198 rfl dX11_come_8 ?_
  refine lv_aload_n C.1 C.2.1 dX11_come_11 rfl (lv_at hl 1 rfl) ?_
  refine x_get C hw iwX11 10 rfl 0 rfl 2 (by decide) kw1199 rfl dX11_come_12 ?_
  refine lv_iload_n C.1 C.2.1 dX11_come_15 rfl (lv_at hl 2 rfl) ?_
  refine lv_iload_n C.1 C.2.1 dX11_come_16 rfl (lv_at hl 0 rfl) ?_
  refine lv_iushr (v := ((w9.toUInt32 >>> ((8 : Int32).toUInt32 &&& Int32.toUInt32 31)).toInt32)) C.1 C.2.1 dX11_come_17 rfl ?_
  refine lv_sipush (v := 255) C.1 C.2.1 dX11_come_18 (by decide) ?_
  refine lv_iand C.1 C.2.1 dX11_come_21 ?_
  refine x_iast (f' := (upd (upd (upd ft 8 (((w9.toUInt32 >>> ((24 : Int32).toUInt32 &&& Int32.toUInt32 31)).toInt32) &&& 255)) 9 (((w9.toUInt32 >>> ((16 : Int32).toUInt32 &&& Int32.toUInt32 31)).toInt32) &&& 255)) 10 (((w9.toUInt32 >>> ((8 : Int32).toUInt32 &&& Int32.toUInt32 31)).toInt32) &&& 255))) (w' := [(qm, .inr (10, [.int 0, .ref mtape, .int 10, .int 0, .int 0, .int 0, .int 0, .int 0, .int 0, .int 0, .int 0, .int 0, .long 0, .int 0, .ref mnow, .ref mread, .ref mkept, .ref msnaps, .ref maside, .ref mname, .ref mreadName, .ref mkeptName, .ref misKept, .ref monces, .int 0, .ref morder, .ref mordered, .int 0, .int 0, .int 0, .int (-1), .int (-1), .ref mtext, .int 0, .int 0, .ref mline, .ref mwritten, .int 0, .int 0, .ref mnode, .int 0, .int 0, .int 0, .int 0])), (mtape, eI G 940 (upd (upd (upd ft 8 (((w9.toUInt32 >>> ((24 : Int32).toUInt32 &&& Int32.toUInt32 31)).toInt32) &&& 255)) 9 (((w9.toUInt32 >>> ((16 : Int32).toUInt32 &&& Int32.toUInt32 31)).toInt32) &&& 255)) 10 (((w9.toUInt32 >>> ((8 : Int32).toUInt32 &&& Int32.toUInt32 31)).toInt32) &&& 255)))]) C hw 1 rfl (x_in rfl) rfl rfl dX11_come_22 (fun H locs hw => ?_)
  refine lv_aload_n C.1 C.2.1 dX11_come_23 rfl (lv_at hl 1 rfl) ?_
  refine lv_dup C.1 C.2.1 dX11_come_24 rfl ?_
  refine x_get C hw iwX11 10 rfl 0 rfl 2 (by decide) kw1199 rfl dX11_come_25 ?_
  refine lv_iconst (v := 1) C.1 C.2.1 dX11_come_28 (by decide) ?_
  refine lv_iadd C.1 C.2.1 dX11_come_29 ?_
  refine x_topi (z := 11) (by decide) ?_
  refine x_put (w' := [(qm, .inr (10, [.int 0, .ref mtape, .int 11, .int 0, .int 0, .int 0, .int 0, .int 0, .int 0, .int 0, .int 0, .int 0, .long 0, .int 0, .ref mnow, .ref mread, .ref mkept, .ref msnaps, .ref maside, .ref mname, .ref mreadName, .ref mkeptName, .ref misKept, .ref monces, .int 0, .ref morder, .ref mordered, .int 0, .int 0, .int 0, .int (-1), .int (-1), .ref mtext, .int 0, .int 0, .ref mline, .ref mwritten, .int 0, .int 0, .ref mnode, .int 0, .int 0, .int 0, .int 0])), (mtape, eI G 940 (upd (upd (upd ft 8 (((w9.toUInt32 >>> ((24 : Int32).toUInt32 &&& Int32.toUInt32 31)).toInt32) &&& 255)) 9 (((w9.toUInt32 >>> ((16 : Int32).toUInt32 &&& Int32.toUInt32 31)).toInt32) &&& 255)) 10 (((w9.toUInt32 >>> ((8 : Int32).toUInt32 &&& Int32.toUInt32 31)).toInt32) &&& 255)))]) C hw iwX11 tyX11_ok nmX11 10 rfl 0 rfl 2 (by decide) kw1199 rfl rfl rfl (Nat.le_of_ble_eq_true rfl) rfl dX11_come_30 (fun H locs hw => ?_)
  refine lv_iinc (v := 0) (lv' := [(2, .int 0), (0, .ref qm), (1, .int w9)]) C.1 C.2.1 dX11_come_33 hl (k := 0) rfl (by decide) (by decide) rfl (fun ls hl => ?_)
  refine lv_goto (tgt := 3) C.1 C.2.1 dX11_come_36 (by decide) ?_
  refine lv_iload_n C.1 C.2.1 dX11_come_3 rfl (lv_at hl 0 rfl) ?_
  refine lv_if_lt (tgt := 39) C.1 C.2.1 dX11_come_4 (by decide) (fun h9 => absurd h9 (by decide)) (fun _ => ?_)
  refine lv_aload_n C.1 C.2.1 dX11_come_7 rfl (lv_at hl 1 rfl) ?_
  refine x_get C hw iwX11 10 rfl 0 rfl 1 (by decide) kw1198 rfl dX11_come_8 ?_
  refine lv_aload_n C.1 C.2.1 dX11_come_11 rfl (lv_at hl 1 rfl) ?_
  refine x_get C hw iwX11 10 rfl 0 rfl 2 (by decide) kw1199 rfl dX11_come_12 ?_
  refine lv_iload_n C.1 C.2.1 dX11_come_15 rfl (lv_at hl 2 rfl) ?_
  refine lv_iload_n C.1 C.2.1 dX11_come_16 rfl (lv_at hl 0 rfl) ?_
  refine lv_iushr (v := ((w9.toUInt32 >>> ((0 : Int32).toUInt32 &&& Int32.toUInt32 31)).toInt32)) C.1 C.2.1 dX11_come_17 rfl ?_
  refine lv_sipush (v := 255) C.1 C.2.1 dX11_come_18 (by decide) ?_
  refine lv_iand C.1 C.2.1 dX11_come_21 ?_
  refine x_iast (f' := (upd (upd (upd (upd ft 8 (((w9.toUInt32 >>> ((24 : Int32).toUInt32 &&& Int32.toUInt32 31)).toInt32) &&& 255)) 9 (((w9.toUInt32 >>> ((16 : Int32).toUInt32 &&& Int32.toUInt32 31)).toInt32) &&& 255)) 10 (((w9.toUInt32 >>> ((8 : Int32).toUInt32 &&& Int32.toUInt32 31)).toInt32) &&& 255)) 11 (((w9.toUInt32 >>> ((0 : Int32).toUInt32 &&& Int32.toUInt32 31)).toInt32) &&& 255))) (w' := [(qm, .inr (10, [.int 0, .ref mtape, .int 11, .int 0, .int 0, .int 0, .int 0, .int 0, .int 0, .int 0, .int 0, .int 0, .long 0, .int 0, .ref mnow, .ref mread, .ref mkept, .ref msnaps, .ref maside, .ref mname, .ref mreadName, .ref mkeptName, .ref misKept, .ref monces, .int 0, .ref morder, .ref mordered, .int 0, .int 0, .int 0, .int (-1), .int (-1), .ref mtext, .int 0, .int 0, .ref mline, .ref mwritten, .int 0, .int 0, .ref mnode, .int 0, .int 0, .int 0, .int 0])), (mtape, eI G 940 (upd (upd (upd (upd ft 8 (((w9.toUInt32 >>> ((24 : Int32).toUInt32 &&& Int32.toUInt32 31)).toInt32) &&& 255)) 9 (((w9.toUInt32 >>> ((16 : Int32).toUInt32 &&& Int32.toUInt32 31)).toInt32) &&& 255)) 10 (((w9.toUInt32 >>> ((8 : Int32).toUInt32 &&& Int32.toUInt32 31)).toInt32) &&& 255)) 11 (((w9.toUInt32 >>> ((0 : Int32).toUInt32 &&& Int32.toUInt32 31)).toInt32) &&& 255)))]) C hw 1 rfl (x_in rfl) rfl rfl dX11_come_22 (fun H locs hw => ?_)
  refine lv_aload_n C.1 C.2.1 dX11_come_23 rfl (lv_at hl 1 rfl) ?_
  refine lv_dup C.1 C.2.1 dX11_come_24 rfl ?_
  refine x_get C hw iwX11 10 rfl 0 rfl 2 (by decide) kw1199 rfl dX11_come_25 ?_
  refine lv_iconst (v := 1) C.1 C.2.1 dX11_come_28 (by decide) ?_
  refine lv_iadd C.1 C.2.1 dX11_come_29 ?_
  refine x_topi (z := 12) (by decide) ?_
  refine x_put (w' := [(qm, .inr (10, [.int 0, .ref mtape, .int 12, .int 0, .int 0, .int 0, .int 0, .int 0, .int 0, .int 0, .int 0, .int 0, .long 0, .int 0, .ref mnow, .ref mread, .ref mkept, .ref msnaps, .ref maside, .ref mname, .ref mreadName, .ref mkeptName, .ref misKept, .ref monces, .int 0, .ref morder, .ref mordered, .int 0, .int 0, .int 0, .int (-1), .int (-1), .ref mtext, .int 0, .int 0, .ref mline, .ref mwritten, .int 0, .int 0, .ref mnode, .int 0, .int 0, .int 0, .int 0])), (mtape, eI G 940 (upd (upd (upd (upd ft 8 (((w9.toUInt32 >>> ((24 : Int32).toUInt32 &&& Int32.toUInt32 31)).toInt32) &&& 255)) 9 (((w9.toUInt32 >>> ((16 : Int32).toUInt32 &&& Int32.toUInt32 31)).toInt32) &&& 255)) 10 (((w9.toUInt32 >>> ((8 : Int32).toUInt32 &&& Int32.toUInt32 31)).toInt32) &&& 255)) 11 (((w9.toUInt32 >>> ((0 : Int32).toUInt32 &&& Int32.toUInt32 31)).toInt32) &&& 255)))]) C hw iwX11 tyX11_ok nmX11 10 rfl 0 rfl 2 (by decide) kw1199 rfl rfl rfl (Nat.le_of_ble_eq_true rfl) rfl dX11_come_30 (fun H locs hw => ?_)
  refine lv_iinc (v := (-8)) (lv' := [(2, .int (-8)), (0, .ref qm), (1, .int w9)]) C.1 C.2.1 dX11_come_33 hl (k := 0) rfl (by decide) (by decide) rfl (fun ls hl => ?_)
  refine lv_goto (tgt := 3) C.1 C.2.1 dX11_come_36 (by decide) ?_
  refine lv_iload_n C.1 C.2.1 dX11_come_3 rfl (lv_at hl 0 rfl) ?_
  refine lv_if_lt (tgt := 39) C.1 C.2.1 dX11_come_4 (by decide) (fun _ => ?_) (fun h9 => absurd (by decide) h9)
  exact x_retv B hw ⟨(upd (upd (upd (upd ft 8 (((w9.toUInt32 >>> ((24 : Int32).toUInt32 &&& Int32.toUInt32 31)).toInt32) &&& 255)) 9 (((w9.toUInt32 >>> ((16 : Int32).toUInt32 &&& Int32.toUInt32 31)).toInt32) &&& 255)) 10 (((w9.toUInt32 >>> ((8 : Int32).toUInt32 &&& Int32.toUInt32 31)).toInt32) &&& 255)) 11 (((w9.toUInt32 >>> ((0 : Int32).toUInt32 &&& Int32.toUInt32 31)).toInt32) &&& 255)), rfl⟩ (Nat.le_of_ble_eq_true rfl) (Nat.le_of_ble_eq_true rfl) dX11_come_39
set_option maxHeartbeats 4000000 in
set_option maxRecDepth 100000 in
theorem c_X11_come12 {l : Launch} {G : Gc} (qm : Nat) (w9 : Int32) (mtape : Nat) (mnow : Nat) (mread : Nat) (mkept : Nat) (msnaps : Nat) (maside : Nat) (mname : Nat) (mreadName : Nat) (mkeptName : Nat) (misKept : Nat) (monces : Nat) (morder : Nat) (mordered : Nat) (mtext : Nat) (mline : Nat) (mwritten : Nat) (mnode : Nat) (ft : Nat → Int32)  : Cv l yX11_come cX11_come 3 0 0 0 G [.ref qm, .int w9] [(qm, .inr (10, [.int 0, .ref mtape, .int 12, .int 0, .int 0, .int 0, .int 0, .int 0, .int 0, .int 0, .int 0, .int 0, .long 0, .int 0, .ref mnow, .ref mread, .ref mkept, .ref msnaps, .ref maside, .ref mname, .ref mreadName, .ref mkeptName, .ref misKept, .ref monces, .int 0, .ref morder, .ref mordered, .int 0, .int 0, .int 0, .int (-1), .int (-1), .ref mtext, .int 0, .int 0, .ref mline, .ref mwritten, .int 0, .int 0, .ref mnode, .int 0, .int 0, .int 0, .int 0])), (mtape, eI G 940 ft)] (fun (u9 : va_W) => ∃ (gt : Nat → Int32), u9 = [(qm, .inr (10, [.int 0, .ref mtape, .int 16, .int 0, .int 0, .int 0, .int 0, .int 0, .int 0, .int 0, .int 0, .int 0, .long 0, .int 0, .ref mnow, .ref mread, .ref mkept, .ref msnaps, .ref maside, .ref mname, .ref mreadName, .ref mkeptName, .ref misKept, .ref monces, .int 0, .ref morder, .ref mordered, .int 0, .int 0, .int 0, .int (-1), .int (-1), .ref mtext, .int 0, .int 0, .ref mline, .ref mwritten, .int 0, .int 0, .ref mnode, .int 0, .int 0, .int 0, .int 0])), (mtape, eI G 940 gt)]) := by
  refine Cv.of (by decide) (Nat.le_of_ble_eq_true rfl) ?_
  intro p e s m below meth c ls A B hw hl
  have C : CallFix p m c cX11_come 3 s _ gw "LanternStateModel" := B.1
  have hl : lv_has ls 3 [(0, .ref qm), (1, .int w9)] := hl
  refine lv_bipush (v := 24) C.1 C.2.1 dX11_come_0 (by decide) ?_
  refine lv_istore_n (lv' := [(2, .int 24), (0, .ref qm), (1, .int w9)]) C.1 C.2.1 dX11_come_2 rfl hl (by decide) rfl (fun ls hl => ?_)
  refine lv_iload_n C.1 C.2.1 dX11_come_3 rfl (lv_at hl 0 rfl) ?_
  refine lv_if_lt (tgt := 39) C.1 C.2.1 dX11_come_4 (by decide) (fun h9 => absurd h9 (by decide)) (fun _ => ?_)
  refine lv_aload_n C.1 C.2.1 dX11_come_7 rfl (lv_at hl 1 rfl) ?_
  refine x_get C hw iwX11 10 rfl 0 rfl 1 (by decide) kw1198 rfl dX11_come_8 ?_
  refine lv_aload_n C.1 C.2.1 dX11_come_11 rfl (lv_at hl 1 rfl) ?_
  refine x_get C hw iwX11 10 rfl 0 rfl 2 (by decide) kw1199 rfl dX11_come_12 ?_
  refine lv_iload_n C.1 C.2.1 dX11_come_15 rfl (lv_at hl 2 rfl) ?_
  refine lv_iload_n C.1 C.2.1 dX11_come_16 rfl (lv_at hl 0 rfl) ?_
  refine lv_iushr (v := ((w9.toUInt32 >>> ((24 : Int32).toUInt32 &&& Int32.toUInt32 31)).toInt32)) C.1 C.2.1 dX11_come_17 rfl ?_
  refine lv_sipush (v := 255) C.1 C.2.1 dX11_come_18 (by decide) ?_
  refine lv_iand C.1 C.2.1 dX11_come_21 ?_
  refine x_iast (f' := (upd ft 12 (((w9.toUInt32 >>> ((24 : Int32).toUInt32 &&& Int32.toUInt32 31)).toInt32) &&& 255))) (w' := [(qm, .inr (10, [.int 0, .ref mtape, .int 12, .int 0, .int 0, .int 0, .int 0, .int 0, .int 0, .int 0, .int 0, .int 0, .long 0, .int 0, .ref mnow, .ref mread, .ref mkept, .ref msnaps, .ref maside, .ref mname, .ref mreadName, .ref mkeptName, .ref misKept, .ref monces, .int 0, .ref morder, .ref mordered, .int 0, .int 0, .int 0, .int (-1), .int (-1), .ref mtext, .int 0, .int 0, .ref mline, .ref mwritten, .int 0, .int 0, .ref mnode, .int 0, .int 0, .int 0, .int 0])), (mtape, eI G 940 (upd ft 12 (((w9.toUInt32 >>> ((24 : Int32).toUInt32 &&& Int32.toUInt32 31)).toInt32) &&& 255)))]) C hw 1 rfl (x_in rfl) rfl rfl dX11_come_22 (fun H locs hw => ?_)
  refine lv_aload_n C.1 C.2.1 dX11_come_23 rfl (lv_at hl 1 rfl) ?_
  refine lv_dup C.1 C.2.1 dX11_come_24 rfl ?_
  refine x_get C hw iwX11 10 rfl 0 rfl 2 (by decide) kw1199 rfl dX11_come_25 ?_
  refine lv_iconst (v := 1) C.1 C.2.1 dX11_come_28 (by decide) ?_
  refine lv_iadd C.1 C.2.1 dX11_come_29 ?_
  refine x_topi (z := 13) (by decide) ?_
  refine x_put (w' := [(qm, .inr (10, [.int 0, .ref mtape, .int 13, .int 0, .int 0, .int 0, .int 0, .int 0, .int 0, .int 0, .int 0, .int 0, .long 0, .int 0, .ref mnow, .ref mread, .ref mkept, .ref msnaps, .ref maside, .ref mname, .ref mreadName, .ref mkeptName, .ref misKept, .ref monces, .int 0, .ref morder, .ref mordered, .int 0, .int 0, .int 0, .int (-1), .int (-1), .ref mtext, .int 0, .int 0, .ref mline, .ref mwritten, .int 0, .int 0, .ref mnode, .int 0, .int 0, .int 0, .int 0])), (mtape, eI G 940 (upd ft 12 (((w9.toUInt32 >>> ((24 : Int32).toUInt32 &&& Int32.toUInt32 31)).toInt32) &&& 255)))]) C hw iwX11 tyX11_ok nmX11 10 rfl 0 rfl 2 (by decide) kw1199 rfl rfl rfl (Nat.le_of_ble_eq_true rfl) rfl dX11_come_30 (fun H locs hw => ?_)
  refine lv_iinc (v := 16) (lv' := [(2, .int 16), (0, .ref qm), (1, .int w9)]) C.1 C.2.1 dX11_come_33 hl (k := 0) rfl (by decide) (by decide) rfl (fun ls hl => ?_)
  refine lv_goto (tgt := 3) C.1 C.2.1 dX11_come_36 (by decide) ?_
  refine lv_iload_n C.1 C.2.1 dX11_come_3 rfl (lv_at hl 0 rfl) ?_
  refine lv_if_lt (tgt := 39) C.1 C.2.1 dX11_come_4 (by decide) (fun h9 => absurd h9 (by decide)) (fun _ => ?_)
  refine lv_aload_n C.1 C.2.1 dX11_come_7 rfl (lv_at hl 1 rfl) ?_
  refine x_get C hw iwX11 10 rfl 0 rfl 1 (by decide) kw1198 rfl dX11_come_8 ?_
  refine lv_aload_n C.1 C.2.1 dX11_come_11 rfl (lv_at hl 1 rfl) ?_
  refine x_get C hw iwX11 10 rfl 0 rfl 2 (by decide) kw1199 rfl dX11_come_12 ?_
  refine lv_iload_n C.1 C.2.1 dX11_come_15 rfl (lv_at hl 2 rfl) ?_
  refine lv_iload_n C.1 C.2.1 dX11_come_16 rfl (lv_at hl 0 rfl) ?_
  refine lv_iushr (v := ((w9.toUInt32 >>> ((16 : Int32).toUInt32 &&& Int32.toUInt32 31)).toInt32)) C.1 C.2.1 dX11_come_17 rfl ?_
  refine lv_sipush (v := 255) C.1 C.2.1 dX11_come_18 (by decide) ?_
  refine lv_iand C.1 C.2.1 dX11_come_21 ?_
  refine x_iast (f' := (upd (upd ft 12 (((w9.toUInt32 >>> ((24 : Int32).toUInt32 &&& Int32.toUInt32 31)).toInt32) &&& 255)) 13 (((w9.toUInt32 >>> ((16 : Int32).toUInt32 &&& Int32.toUInt32 31)).toInt32) &&& 255))) (w' := [(qm, .inr (10, [.int 0, .ref mtape, .int 13, .int 0, .int 0, .int 0, .int 0, .int 0, .int 0, .int 0, .int 0, .int 0, .long 0, .int 0, .ref mnow, .ref mread, .ref mkept, .ref msnaps, .ref maside, .ref mname, .ref mreadName, .ref mkeptName, .ref misKept, .ref monces, .int 0, .ref morder, .ref mordered, .int 0, .int 0, .int 0, .int (-1), .int (-1), .ref mtext, .int 0, .int 0, .ref mline, .ref mwritten, .int 0, .int 0, .ref mnode, .int 0, .int 0, .int 0, .int 0])), (mtape, eI G 940 (upd (upd ft 12 (((w9.toUInt32 >>> ((24 : Int32).toUInt32 &&& Int32.toUInt32 31)).toInt32) &&& 255)) 13 (((w9.toUInt32 >>> ((16 : Int32).toUInt32 &&& Int32.toUInt32 31)).toInt32) &&& 255)))]) C hw 1 rfl (x_in rfl) rfl rfl dX11_come_22 (fun H locs hw => ?_)
  refine lv_aload_n C.1 C.2.1 dX11_come_23 rfl (lv_at hl 1 rfl) ?_
  refine lv_dup C.1 C.2.1 dX11_come_24 rfl ?_
  refine x_get C hw iwX11 10 rfl 0 rfl 2 (by decide) kw1199 rfl dX11_come_25 ?_
  refine lv_iconst (v := 1) C.1 C.2.1 dX11_come_28 (by decide) ?_
  refine lv_iadd C.1 C.2.1 dX11_come_29 ?_
  refine x_topi (z := 14) (by decide) ?_
  refine x_put (w' := [(qm, .inr (10, [.int 0, .ref mtape, .int 14, .int 0, .int 0, .int 0, .int 0, .int 0, .int 0, .int 0, .int 0, .int 0, .long 0, .int 0, .ref mnow, .ref mread, .ref mkept, .ref msnaps, .ref maside, .ref mname, .ref mreadName, .ref mkeptName, .ref misKept, .ref monces, .int 0, .ref morder, .ref mordered, .int 0, .int 0, .int 0, .int (-1), .int (-1), .ref mtext, .int 0, .int 0, .ref mline, .ref mwritten, .int 0, .int 0, .ref mnode, .int 0, .int 0, .int 0, .int 0])), (mtape, eI G 940 (upd (upd ft 12 (((w9.toUInt32 >>> ((24 : Int32).toUInt32 &&& Int32.toUInt32 31)).toInt32) &&& 255)) 13 (((w9.toUInt32 >>> ((16 : Int32).toUInt32 &&& Int32.toUInt32 31)).toInt32) &&& 255)))]) C hw iwX11 tyX11_ok nmX11 10 rfl 0 rfl 2 (by decide) kw1199 rfl rfl rfl (Nat.le_of_ble_eq_true rfl) rfl dX11_come_30 (fun H locs hw => ?_)
  refine lv_iinc (v := 8) (lv' := [(2, .int 8), (0, .ref qm), (1, .int w9)]) C.1 C.2.1 dX11_come_33 hl (k := 0) rfl (by decide) (by decide) rfl (fun ls hl => ?_)
  refine lv_goto (tgt := 3) C.1 C.2.1 dX11_come_36 (by decide) ?_
  refine lv_iload_n C.1 C.2.1 dX11_come_3 rfl (lv_at hl 0 rfl) ?_
  refine lv_if_lt (tgt := 39) C.1 C.2.1 dX11_come_4 (by decide) (fun h9 => absurd h9 (by decide)) (fun _ => ?_)
  refine lv_aload_n C.1 C.2.1 dX11_come_7 rfl (lv_at hl 1 rfl) ?_
  refine x_get C hw iwX11 10 rfl 0 rfl 1 (by decide) kw1198 rfl dX11_come_8 ?_
  refine lv_aload_n C.1 C.2.1 dX11_come_11 rfl (lv_at hl 1 rfl) ?_
  refine x_get C hw iwX11 10 rfl 0 rfl 2 (by decide) kw1199 rfl dX11_come_12 ?_
  refine lv_iload_n C.1 C.2.1 dX11_come_15 rfl (lv_at hl 2 rfl) ?_
  refine lv_iload_n C.1 C.2.1 dX11_come_16 rfl (lv_at hl 0 rfl) ?_
  refine lv_iushr (v := ((w9.toUInt32 >>> ((8 : Int32).toUInt32 &&& Int32.toUInt32 31)).toInt32)) C.1 C.2.1 dX11_come_17 rfl ?_
  refine lv_sipush (v := 255) C.1 C.2.1 dX11_come_18 (by decide) ?_
  refine lv_iand C.1 C.2.1 dX11_come_21 ?_
  refine x_iast (f' := (upd (upd (upd ft 12 (((w9.toUInt32 >>> ((24 : Int32).toUInt32 &&& Int32.toUInt32 31)).toInt32) &&& 255)) 13 (((w9.toUInt32 >>> ((16 : Int32).toUInt32 &&& Int32.toUInt32 31)).toInt32) &&& 255)) 14 (((w9.toUInt32 >>> ((8 : Int32).toUInt32 &&& Int32.toUInt32 31)).toInt32) &&& 255))) (w' := [(qm, .inr (10, [.int 0, .ref mtape, .int 14, .int 0, .int 0, .int 0, .int 0, .int 0, .int 0, .int 0, .int 0, .int 0, .long 0, .int 0, .ref mnow, .ref mread, .ref mkept, .ref msnaps, .ref maside, .ref mname, .ref mreadName, .ref mkeptName, .ref misKept, .ref monces, .int 0, .ref morder, .ref mordered, .int 0, .int 0, .int 0, .int (-1), .int (-1), .ref mtext, .int 0, .int 0, .ref mline, .ref mwritten, .int 0, .int 0, .ref mnode, .int 0, .int 0, .int 0, .int 0])), (mtape, eI G 940 (upd (upd (upd ft 12 (((w9.toUInt32 >>> ((24 : Int32).toUInt32 &&& Int32.toUInt32 31)).toInt32) &&& 255)) 13 (((w9.toUInt32 >>> ((16 : Int32).toUInt32 &&& Int32.toUInt32 31)).toInt32) &&& 255)) 14 (((w9.toUInt32 >>> ((8 : Int32).toUInt32 &&& Int32.toUInt32 31)).toInt32) &&& 255)))]) C hw 1 rfl (x_in rfl) rfl rfl dX11_come_22 (fun H locs hw => ?_)
  refine lv_aload_n C.1 C.2.1 dX11_come_23 rfl (lv_at hl 1 rfl) ?_
  refine lv_dup C.1 C.2.1 dX11_come_24 rfl ?_
  refine x_get C hw iwX11 10 rfl 0 rfl 2 (by decide) kw1199 rfl dX11_come_25 ?_
  refine lv_iconst (v := 1) C.1 C.2.1 dX11_come_28 (by decide) ?_
  refine lv_iadd C.1 C.2.1 dX11_come_29 ?_
  refine x_topi (z := 15) (by decide) ?_
  refine x_put (w' := [(qm, .inr (10, [.int 0, .ref mtape, .int 15, .int 0, .int 0, .int 0, .int 0, .int 0, .int 0, .int 0, .int 0, .int 0, .long 0, .int 0, .ref mnow, .ref mread, .ref mkept, .ref msnaps, .ref maside, .ref mname, .ref mreadName, .ref mkeptName, .ref misKept, .ref monces, .int 0, .ref morder, .ref mordered, .int 0, .int 0, .int 0, .int (-1), .int (-1), .ref mtext, .int 0, .int 0, .ref mline, .ref mwritten, .int 0, .int 0, .ref mnode, .int 0, .int 0, .int 0, .int 0])), (mtape, eI G 940 (upd (upd (upd ft 12 (((w9.toUInt32 >>> ((24 : Int32).toUInt32 &&& Int32.toUInt32 31)).toInt32) &&& 255)) 13 (((w9.toUInt32 >>> ((16 : Int32).toUInt32 &&& Int32.toUInt32 31)).toInt32) &&& 255)) 14 (((w9.toUInt32 >>> ((8 : Int32).toUInt32 &&& Int32.toUInt32 31)).toInt32) &&& 255)))]) C hw iwX11 tyX11_ok nmX11 10 rfl 0 rfl 2 (by decide) kw1199 rfl rfl rfl (Nat.le_of_ble_eq_true rfl) rfl dX11_come_30 (fun H locs hw => ?_)
  refine lv_iinc (v := 0) (lv' := [(2, .int 0), (0, .ref qm), (1, .int w9)]) C.1 C.2.1 dX11_come_33 hl (k := 0) rfl (by decide) (by decide) rfl (fun ls hl => ?_)
  refine lv_goto (tgt := 3) C.1 C.2.1 dX11_come_36 (by decide) ?_
  refine lv_iload_n C.1 C.2.1 dX11_come_3 rfl (lv_at hl 0 rfl) ?_
  refine lv_if_lt (tgt := 39) C.1 C.2.1 dX11_come_4 (by decide) (fun h9 => absurd h9 (by decide)) (fun _ => ?_)
  refine lv_aload_n C.1 C.2.1 dX11_come_7 rfl (lv_at hl 1 rfl) ?_
  refine x_get C hw iwX11 10 rfl 0 rfl 1 (by decide) kw1198 rfl dX11_come_8 ?_
  refine lv_aload_n C.1 C.2.1 dX11_come_11 rfl (lv_at hl 1 rfl) ?_
  refine x_get C hw iwX11 10 rfl 0 rfl 2 (by decide) kw1199 rfl dX11_come_12 ?_
  refine lv_iload_n C.1 C.2.1 dX11_come_15 rfl (lv_at hl 2 rfl) ?_
  refine lv_iload_n C.1 C.2.1 dX11_come_16 rfl (lv_at hl 0 rfl) ?_
  refine lv_iushr (v := ((w9.toUInt32 >>> ((0 : Int32).toUInt32 &&& Int32.toUInt32 31)).toInt32)) C.1 C.2.1 dX11_come_17 rfl ?_
  refine lv_sipush (v := 255) C.1 C.2.1 dX11_come_18 (by decide) ?_
  refine lv_iand C.1 C.2.1 dX11_come_21 ?_
  refine x_iast (f' := (upd (upd (upd (upd ft 12 (((w9.toUInt32 >>> ((24 : Int32).toUInt32 &&& Int32.toUInt32 31)).toInt32) &&& 255)) 13 (((w9.toUInt32 >>> ((16 : Int32).toUInt32 &&& Int32.toUInt32 31)).toInt32) &&& 255)) 14 (((w9.toUInt32 >>> ((8 : Int32).toUInt32 &&& Int32.toUInt32 31)).toInt32) &&& 255)) 15 (((w9.toUInt32 >>> ((0 : Int32).toUInt32 &&& Int32.toUInt32 31)).toInt32) &&& 255))) (w' := [(qm, .inr (10, [.int 0, .ref mtape, .int 15, .int 0, .int 0, .int 0, .int 0, .int 0, .int 0, .int 0, .int 0, .int 0, .long 0, .int 0, .ref mnow, .ref mread, .ref mkept, .ref msnaps, .ref maside, .ref mname, .ref mreadName, .ref mkeptName, .ref misKept, .ref monces, .int 0, .ref morder, .ref mordered, .int 0, .int 0, .int 0, .int (-1), .int (-1), .ref mtext, .int 0, .int 0, .ref mline, .ref mwritten, .int 0, .int 0, .ref mnode, .int 0, .int 0, .int 0, .int 0])), (mtape, eI G 940 (upd (upd (upd (upd ft 12 (((w9.toUInt32 >>> ((24 : Int32).toUInt32 &&& Int32.toUInt32 31)).toInt32) &&& 255)) 13 (((w9.toUInt32 >>> ((16 : Int32).toUInt32 &&& Int32.toUInt32 31)).toInt32) &&& 255)) 14 (((w9.toUInt32 >>> ((8 : Int32).toUInt32 &&& Int32.toUInt32 31)).toInt32) &&& 255)) 15 (((w9.toUInt32 >>> ((0 : Int32).toUInt32 &&& Int32.toUInt32 31)).toInt32) &&& 255)))]) C hw 1 rfl (x_in rfl) rfl rfl dX11_come_22 (fun H locs hw => ?_)
  refine lv_aload_n C.1 C.2.1 dX11_come_23 rfl (lv_at hl 1 rfl) ?_
  refine lv_dup C.1 C.2.1 dX11_come_24 rfl ?_
  refine x_get C hw iwX11 10 rfl 0 rfl 2 (by decide) kw1199 rfl dX11_come_25 ?_
  refine lv_iconst (v := 1) C.1 C.2.1 dX11_come_28 (by decide) ?_
  refine lv_iadd C.1 C.2.1 dX11_come_29 ?_
  refine x_topi (z := 16) (by decide) ?_
  refine x_put (w' := [(qm, .inr (10, [.int 0, .ref mtape, .int 16, .int 0, .int 0, .int 0, .int 0, .int 0, .int 0, .int 0, .int 0, .int 0, .long 0, .int 0, .ref mnow, .ref mread, .ref mkept, .ref msnaps, .ref maside, .ref mname, .ref mreadName, .ref mkeptName, .ref misKept, .ref monces, .int 0, .ref morder, .ref mordered, .int 0, .int 0, .int 0, .int (-1), .int (-1), .ref mtext, .int 0, .int 0, .ref mline, .ref mwritten, .int 0, .int 0, .ref mnode, .int 0, .int 0, .int 0, .int 0])), (mtape, eI G 940 (upd (upd (upd (upd ft 12 (((w9.toUInt32 >>> ((24 : Int32).toUInt32 &&& Int32.toUInt32 31)).toInt32) &&& 255)) 13 (((w9.toUInt32 >>> ((16 : Int32).toUInt32 &&& Int32.toUInt32 31)).toInt32) &&& 255)) 14 (((w9.toUInt32 >>> ((8 : Int32).toUInt32 &&& Int32.toUInt32 31)).toInt32) &&& 255)) 15 (((w9.toUInt32 >>> ((0 : Int32).toUInt32 &&& Int32.toUInt32 31)).toInt32) &&& 255)))]) C hw iwX11 tyX11_ok nmX11 10 rfl 0 rfl 2 (by decide) kw1199 rfl rfl rfl (Nat.le_of_ble_eq_true rfl) rfl dX11_come_30 (fun H locs hw => ?_)
  refine lv_iinc (v := (-8)) (lv' := [(2, .int (-8)), (0, .ref qm), (1, .int w9)]) C.1 C.2.1 dX11_come_33 hl (k := 0) rfl (by decide) (by decide) rfl (fun ls hl => ?_)
  refine lv_goto (tgt := 3) C.1 C.2.1 dX11_come_36 (by decide) ?_
  refine lv_iload_n C.1 C.2.1 dX11_come_3 rfl (lv_at hl 0 rfl) ?_
  refine lv_if_lt (tgt := 39) C.1 C.2.1 dX11_come_4 (by decide) (fun _ => ?_) (fun h9 => absurd (by decide) h9)
  exact x_retv B hw ⟨(upd (upd (upd (upd ft 12 (((w9.toUInt32 >>> ((24 : Int32).toUInt32 &&& Int32.toUInt32 31)).toInt32) &&& 255)) 13 (((w9.toUInt32 >>> ((16 : Int32).toUInt32 &&& Int32.toUInt32 31)).toInt32) &&& 255)) 14 (((w9.toUInt32 >>> ((8 : Int32).toUInt32 &&& Int32.toUInt32 31)).toInt32) &&& 255)) 15 (((w9.toUInt32 >>> ((0 : Int32).toUInt32 &&& Int32.toUInt32 31)).toInt32) &&& 255)), rfl⟩ (Nat.le_of_ble_eq_true rfl) (Nat.le_of_ble_eq_true rfl) dX11_come_39
set_option maxHeartbeats 4000000 in
set_option maxRecDepth 100000 in
theorem c_X11_come16 {l : Launch} {G : Gc} (qm : Nat) (w9 : Int32) (mtape : Nat) (mnow : Nat) (mread : Nat) (mkept : Nat) (msnaps : Nat) (maside : Nat) (mname : Nat) (mreadName : Nat) (mkeptName : Nat) (misKept : Nat) (monces : Nat) (morder : Nat) (mordered : Nat) (mtext : Nat) (mline : Nat) (mwritten : Nat) (mnode : Nat) (ft : Nat → Int32)  : Cv l yX11_come cX11_come 3 0 0 0 G [.ref qm, .int w9] [(qm, .inr (10, [.int 0, .ref mtape, .int 16, .int 0, .int 0, .int 0, .int 0, .int 0, .int 0, .int 0, .int 0, .int 0, .long 0, .int 0, .ref mnow, .ref mread, .ref mkept, .ref msnaps, .ref maside, .ref mname, .ref mreadName, .ref mkeptName, .ref misKept, .ref monces, .int 0, .ref morder, .ref mordered, .int 0, .int 0, .int 0, .int (-1), .int (-1), .ref mtext, .int 0, .int 0, .ref mline, .ref mwritten, .int 0, .int 0, .ref mnode, .int 0, .int 0, .int 0, .int 0])), (mtape, eI G 940 ft)] (fun (u9 : va_W) => ∃ (gt : Nat → Int32), u9 = [(qm, .inr (10, [.int 0, .ref mtape, .int 20, .int 0, .int 0, .int 0, .int 0, .int 0, .int 0, .int 0, .int 0, .int 0, .long 0, .int 0, .ref mnow, .ref mread, .ref mkept, .ref msnaps, .ref maside, .ref mname, .ref mreadName, .ref mkeptName, .ref misKept, .ref monces, .int 0, .ref morder, .ref mordered, .int 0, .int 0, .int 0, .int (-1), .int (-1), .ref mtext, .int 0, .int 0, .ref mline, .ref mwritten, .int 0, .int 0, .ref mnode, .int 0, .int 0, .int 0, .int 0])), (mtape, eI G 940 gt)]) := by
  refine Cv.of (by decide) (Nat.le_of_ble_eq_true rfl) ?_
  intro p e s m below meth c ls A B hw hl
  have C : CallFix p m c cX11_come 3 s _ gw "LanternStateModel" := B.1
  have hl : lv_has ls 3 [(0, .ref qm), (1, .int w9)] := hl
  refine lv_bipush (v := 24) C.1 C.2.1 dX11_come_0 (by decide) ?_
  refine lv_istore_n (lv' := [(2, .int 24), (0, .ref qm), (1, .int w9)]) C.1 C.2.1 dX11_come_2 rfl hl (by decide) rfl (fun ls hl => ?_)
  refine lv_iload_n C.1 C.2.1 dX11_come_3 rfl (lv_at hl 0 rfl) ?_
  refine lv_if_lt (tgt := 39) C.1 C.2.1 dX11_come_4 (by decide) (fun h9 => absurd h9 (by decide)) (fun _ => ?_)
  refine lv_aload_n C.1 C.2.1 dX11_come_7 rfl (lv_at hl 1 rfl) ?_
  refine x_get C hw iwX11 10 rfl 0 rfl 1 (by decide) kw1198 rfl dX11_come_8 ?_
  refine lv_aload_n C.1 C.2.1 dX11_come_11 rfl (lv_at hl 1 rfl) ?_
  refine x_get C hw iwX11 10 rfl 0 rfl 2 (by decide) kw1199 rfl dX11_come_12 ?_
  refine lv_iload_n C.1 C.2.1 dX11_come_15 rfl (lv_at hl 2 rfl) ?_
  refine lv_iload_n C.1 C.2.1 dX11_come_16 rfl (lv_at hl 0 rfl) ?_
  refine lv_iushr (v := ((w9.toUInt32 >>> ((24 : Int32).toUInt32 &&& Int32.toUInt32 31)).toInt32)) C.1 C.2.1 dX11_come_17 rfl ?_
  refine lv_sipush (v := 255) C.1 C.2.1 dX11_come_18 (by decide) ?_
  refine lv_iand C.1 C.2.1 dX11_come_21 ?_
  refine x_iast (f' := (upd ft 16 (((w9.toUInt32 >>> ((24 : Int32).toUInt32 &&& Int32.toUInt32 31)).toInt32) &&& 255))) (w' := [(qm, .inr (10, [.int 0, .ref mtape, .int 16, .int 0, .int 0, .int 0, .int 0, .int 0, .int 0, .int 0, .int 0, .int 0, .long 0, .int 0, .ref mnow, .ref mread, .ref mkept, .ref msnaps, .ref maside, .ref mname, .ref mreadName, .ref mkeptName, .ref misKept, .ref monces, .int 0, .ref morder, .ref mordered, .int 0, .int 0, .int 0, .int (-1), .int (-1), .ref mtext, .int 0, .int 0, .ref mline, .ref mwritten, .int 0, .int 0, .ref mnode, .int 0, .int 0, .int 0, .int 0])), (mtape, eI G 940 (upd ft 16 (((w9.toUInt32 >>> ((24 : Int32).toUInt32 &&& Int32.toUInt32 31)).toInt32) &&& 255)))]) C hw 1 rfl (x_in rfl) rfl rfl dX11_come_22 (fun H locs hw => ?_)
  refine lv_aload_n C.1 C.2.1 dX11_come_23 rfl (lv_at hl 1 rfl) ?_
  refine lv_dup C.1 C.2.1 dX11_come_24 rfl ?_
  refine x_get C hw iwX11 10 rfl 0 rfl 2 (by decide) kw1199 rfl dX11_come_25 ?_
  refine lv_iconst (v := 1) C.1 C.2.1 dX11_come_28 (by decide) ?_
  refine lv_iadd C.1 C.2.1 dX11_come_29 ?_
  refine x_topi (z := 17) (by decide) ?_
  refine x_put (w' := [(qm, .inr (10, [.int 0, .ref mtape, .int 17, .int 0, .int 0, .int 0, .int 0, .int 0, .int 0, .int 0, .int 0, .int 0, .long 0, .int 0, .ref mnow, .ref mread, .ref mkept, .ref msnaps, .ref maside, .ref mname, .ref mreadName, .ref mkeptName, .ref misKept, .ref monces, .int 0, .ref morder, .ref mordered, .int 0, .int 0, .int 0, .int (-1), .int (-1), .ref mtext, .int 0, .int 0, .ref mline, .ref mwritten, .int 0, .int 0, .ref mnode, .int 0, .int 0, .int 0, .int 0])), (mtape, eI G 940 (upd ft 16 (((w9.toUInt32 >>> ((24 : Int32).toUInt32 &&& Int32.toUInt32 31)).toInt32) &&& 255)))]) C hw iwX11 tyX11_ok nmX11 10 rfl 0 rfl 2 (by decide) kw1199 rfl rfl rfl (Nat.le_of_ble_eq_true rfl) rfl dX11_come_30 (fun H locs hw => ?_)
  refine lv_iinc (v := 16) (lv' := [(2, .int 16), (0, .ref qm), (1, .int w9)]) C.1 C.2.1 dX11_come_33 hl (k := 0) rfl (by decide) (by decide) rfl (fun ls hl => ?_)
  refine lv_goto (tgt := 3) C.1 C.2.1 dX11_come_36 (by decide) ?_
  refine lv_iload_n C.1 C.2.1 dX11_come_3 rfl (lv_at hl 0 rfl) ?_
  refine lv_if_lt (tgt := 39) C.1 C.2.1 dX11_come_4 (by decide) (fun h9 => absurd h9 (by decide)) (fun _ => ?_)
  refine lv_aload_n C.1 C.2.1 dX11_come_7 rfl (lv_at hl 1 rfl) ?_
  refine x_get C hw iwX11 10 rfl 0 rfl 1 (by decide) kw1198 rfl dX11_come_8 ?_
  refine lv_aload_n C.1 C.2.1 dX11_come_11 rfl (lv_at hl 1 rfl) ?_
  refine x_get C hw iwX11 10 rfl 0 rfl 2 (by decide) kw1199 rfl dX11_come_12 ?_
  refine lv_iload_n C.1 C.2.1 dX11_come_15 rfl (lv_at hl 2 rfl) ?_
  refine lv_iload_n C.1 C.2.1 dX11_come_16 rfl (lv_at hl 0 rfl) ?_
  refine lv_iushr (v := ((w9.toUInt32 >>> ((16 : Int32).toUInt32 &&& Int32.toUInt32 31)).toInt32)) C.1 C.2.1 dX11_come_17 rfl ?_
  refine lv_sipush (v := 255) C.1 C.2.1 dX11_come_18 (by decide) ?_
  refine lv_iand C.1 C.2.1 dX11_come_21 ?_
  refine x_iast (f' := (upd (upd ft 16 (((w9.toUInt32 >>> ((24 : Int32).toUInt32 &&& Int32.toUInt32 31)).toInt32) &&& 255)) 17 (((w9.toUInt32 >>> ((16 : Int32).toUInt32 &&& Int32.toUInt32 31)).toInt32) &&& 255))) (w' := [(qm, .inr (10, [.int 0, .ref mtape, .int 17, .int 0, .int 0, .int 0, .int 0, .int 0, .int 0, .int 0, .int 0, .int 0, .long 0, .int 0, .ref mnow, .ref mread, .ref mkept, .ref msnaps, .ref maside, .ref mname, .ref mreadName, .ref mkeptName, .ref misKept, .ref monces, .int 0, .ref morder, .ref mordered, .int 0, .int 0, .int 0, .int (-1), .int (-1), .ref mtext, .int 0, .int 0, .ref mline, .ref mwritten, .int 0, .int 0, .ref mnode, .int 0, .int 0, .int 0, .int 0])), (mtape, eI G 940 (upd (upd ft 16 (((w9.toUInt32 >>> ((24 : Int32).toUInt32 &&& Int32.toUInt32 31)).toInt32) &&& 255)) 17 (((w9.toUInt32 >>> ((16 : Int32).toUInt32 &&& Int32.toUInt32 31)).toInt32) &&& 255)))]) C hw 1 rfl (x_in rfl) rfl rfl dX11_come_22 (fun H locs hw => ?_)
  refine lv_aload_n C.1 C.2.1 dX11_come_23 rfl (lv_at hl 1 rfl) ?_
  refine lv_dup C.1 C.2.1 dX11_come_24 rfl ?_
  refine x_get C hw iwX11 10 rfl 0 rfl 2 (by decide) kw1199 rfl dX11_come_25 ?_
  refine lv_iconst (v := 1) C.1 C.2.1 dX11_come_28 (by decide) ?_
  refine lv_iadd C.1 C.2.1 dX11_come_29 ?_
  refine x_topi (z := 18) (by decide) ?_
  refine x_put (w' := [(qm, .inr (10, [.int 0, .ref mtape, .int 18, .int 0, .int 0, .int 0, .int 0, .int 0, .int 0, .int 0, .int 0, .int 0, .long 0, .int 0, .ref mnow, .ref mread, .ref mkept, .ref msnaps, .ref maside, .ref mname, .ref mreadName, .ref mkeptName, .ref misKept, .ref monces, .int 0, .ref morder, .ref mordered, .int 0, .int 0, .int 0, .int (-1), .int (-1), .ref mtext, .int 0, .int 0, .ref mline, .ref mwritten, .int 0, .int 0, .ref mnode, .int 0, .int 0, .int 0, .int 0])), (mtape, eI G 940 (upd (upd ft 16 (((w9.toUInt32 >>> ((24 : Int32).toUInt32 &&& Int32.toUInt32 31)).toInt32) &&& 255)) 17 (((w9.toUInt32 >>> ((16 : Int32).toUInt32 &&& Int32.toUInt32 31)).toInt32) &&& 255)))]) C hw iwX11 tyX11_ok nmX11 10 rfl 0 rfl 2 (by decide) kw1199 rfl rfl rfl (Nat.le_of_ble_eq_true rfl) rfl dX11_come_30 (fun H locs hw => ?_)
  refine lv_iinc (v := 8) (lv' := [(2, .int 8), (0, .ref qm), (1, .int w9)]) C.1 C.2.1 dX11_come_33 hl (k := 0) rfl (by decide) (by decide) rfl (fun ls hl => ?_)
  refine lv_goto (tgt := 3) C.1 C.2.1 dX11_come_36 (by decide) ?_
  refine lv_iload_n C.1 C.2.1 dX11_come_3 rfl (lv_at hl 0 rfl) ?_
  refine lv_if_lt (tgt := 39) C.1 C.2.1 dX11_come_4 (by decide) (fun h9 => absurd h9 (by decide)) (fun _ => ?_)
  refine lv_aload_n C.1 C.2.1 dX11_come_7 rfl (lv_at hl 1 rfl) ?_
  refine x_get C hw iwX11 10 rfl 0 rfl 1 (by decide) kw1198 rfl dX11_come_8 ?_
  refine lv_aload_n C.1 C.2.1 dX11_come_11 rfl (lv_at hl 1 rfl) ?_
  refine x_get C hw iwX11 10 rfl 0 rfl 2 (by decide) kw1199 rfl dX11_come_12 ?_
  refine lv_iload_n C.1 C.2.1 dX11_come_15 rfl (lv_at hl 2 rfl) ?_
  refine lv_iload_n C.1 C.2.1 dX11_come_16 rfl (lv_at hl 0 rfl) ?_
  refine lv_iushr (v := ((w9.toUInt32 >>> ((8 : Int32).toUInt32 &&& Int32.toUInt32 31)).toInt32)) C.1 C.2.1 dX11_come_17 rfl ?_
  refine lv_sipush (v := 255) C.1 C.2.1 dX11_come_18 (by decide) ?_
  refine lv_iand C.1 C.2.1 dX11_come_21 ?_
  refine x_iast (f' := (upd (upd (upd ft 16 (((w9.toUInt32 >>> ((24 : Int32).toUInt32 &&& Int32.toUInt32 31)).toInt32) &&& 255)) 17 (((w9.toUInt32 >>> ((16 : Int32).toUInt32 &&& Int32.toUInt32 31)).toInt32) &&& 255)) 18 (((w9.toUInt32 >>> ((8 : Int32).toUInt32 &&& Int32.toUInt32 31)).toInt32) &&& 255))) (w' := [(qm, .inr (10, [.int 0, .ref mtape, .int 18, .int 0, .int 0, .int 0, .int 0, .int 0, .int 0, .int 0, .int 0, .int 0, .long 0, .int 0, .ref mnow, .ref mread, .ref mkept, .ref msnaps, .ref maside, .ref mname, .ref mreadName, .ref mkeptName, .ref misKept, .ref monces, .int 0, .ref morder, .ref mordered, .int 0, .int 0, .int 0, .int (-1), .int (-1), .ref mtext, .int 0, .int 0, .ref mline, .ref mwritten, .int 0, .int 0, .ref mnode, .int 0, .int 0, .int 0, .int 0])), (mtape, eI G 940 (upd (upd (upd ft 16 (((w9.toUInt32 >>> ((24 : Int32).toUInt32 &&& Int32.toUInt32 31)).toInt32) &&& 255)) 17 (((w9.toUInt32 >>> ((16 : Int32).toUInt32 &&& Int32.toUInt32 31)).toInt32) &&& 255)) 18 (((w9.toUInt32 >>> ((8 : Int32).toUInt32 &&& Int32.toUInt32 31)).toInt32) &&& 255)))]) C hw 1 rfl (x_in rfl) rfl rfl dX11_come_22 (fun H locs hw => ?_)
  refine lv_aload_n C.1 C.2.1 dX11_come_23 rfl (lv_at hl 1 rfl) ?_
  refine lv_dup C.1 C.2.1 dX11_come_24 rfl ?_
  refine x_get C hw iwX11 10 rfl 0 rfl 2 (by decide) kw1199 rfl dX11_come_25 ?_
  refine lv_iconst (v := 1) C.1 C.2.1 dX11_come_28 (by decide) ?_
  refine lv_iadd C.1 C.2.1 dX11_come_29 ?_
  refine x_topi (z := 19) (by decide) ?_
  refine x_put (w' := [(qm, .inr (10, [.int 0, .ref mtape, .int 19, .int 0, .int 0, .int 0, .int 0, .int 0, .int 0, .int 0, .int 0, .int 0, .long 0, .int 0, .ref mnow, .ref mread, .ref mkept, .ref msnaps, .ref maside, .ref mname, .ref mreadName, .ref mkeptName, .ref misKept, .ref monces, .int 0, .ref morder, .ref mordered, .int 0, .int 0, .int 0, .int (-1), .int (-1), .ref mtext, .int 0, .int 0, .ref mline, .ref mwritten, .int 0, .int 0, .ref mnode, .int 0, .int 0, .int 0, .int 0])), (mtape, eI G 940 (upd (upd (upd ft 16 (((w9.toUInt32 >>> ((24 : Int32).toUInt32 &&& Int32.toUInt32 31)).toInt32) &&& 255)) 17 (((w9.toUInt32 >>> ((16 : Int32).toUInt32 &&& Int32.toUInt32 31)).toInt32) &&& 255)) 18 (((w9.toUInt32 >>> ((8 : Int32).toUInt32 &&& Int32.toUInt32 31)).toInt32) &&& 255)))]) C hw iwX11 tyX11_ok nmX11 10 rfl 0 rfl 2 (by decide) kw1199 rfl rfl rfl (Nat.le_of_ble_eq_true rfl) rfl dX11_come_30 (fun H locs hw => ?_)
  refine lv_iinc (v := 0) (lv' := [(2, .int 0), (0, .ref qm), (1, .int w9)]) C.1 C.2.1 dX11_come_33 hl (k := 0) rfl (by decide) (by decide) rfl (fun ls hl => ?_)
  refine lv_goto (tgt := 3) C.1 C.2.1 dX11_come_36 (by decide) ?_
  refine lv_iload_n C.1 C.2.1 dX11_come_3 rfl (lv_at hl 0 rfl) ?_
  refine lv_if_lt (tgt := 39) C.1 C.2.1 dX11_come_4 (by decide) (fun h9 => absurd h9 (by decide)) (fun _ => ?_)
  refine lv_aload_n C.1 C.2.1 dX11_come_7 rfl (lv_at hl 1 rfl) ?_
  refine x_get C hw iwX11 10 rfl 0 rfl 1 (by decide) kw1198 rfl dX11_come_8 ?_
  refine lv_aload_n C.1 C.2.1 dX11_come_11 rfl (lv_at hl 1 rfl) ?_
  refine x_get C hw iwX11 10 rfl 0 rfl 2 (by decide) kw1199 rfl dX11_come_12 ?_
  refine lv_iload_n C.1 C.2.1 dX11_come_15 rfl (lv_at hl 2 rfl) ?_
  refine lv_iload_n C.1 C.2.1 dX11_come_16 rfl (lv_at hl 0 rfl) ?_
  refine lv_iushr (v := ((w9.toUInt32 >>> ((0 : Int32).toUInt32 &&& Int32.toUInt32 31)).toInt32)) C.1 C.2.1 dX11_come_17 rfl ?_
  refine lv_sipush (v := 255) C.1 C.2.1 dX11_come_18 (by decide) ?_
  refine lv_iand C.1 C.2.1 dX11_come_21 ?_
  refine x_iast (f' := (upd (upd (upd (upd ft 16 (((w9.toUInt32 >>> ((24 : Int32).toUInt32 &&& Int32.toUInt32 31)).toInt32) &&& 255)) 17 (((w9.toUInt32 >>> ((16 : Int32).toUInt32 &&& Int32.toUInt32 31)).toInt32) &&& 255)) 18 (((w9.toUInt32 >>> ((8 : Int32).toUInt32 &&& Int32.toUInt32 31)).toInt32) &&& 255)) 19 (((w9.toUInt32 >>> ((0 : Int32).toUInt32 &&& Int32.toUInt32 31)).toInt32) &&& 255))) (w' := [(qm, .inr (10, [.int 0, .ref mtape, .int 19, .int 0, .int 0, .int 0, .int 0, .int 0, .int 0, .int 0, .int 0, .int 0, .long 0, .int 0, .ref mnow, .ref mread, .ref mkept, .ref msnaps, .ref maside, .ref mname, .ref mreadName, .ref mkeptName, .ref misKept, .ref monces, .int 0, .ref morder, .ref mordered, .int 0, .int 0, .int 0, .int (-1), .int (-1), .ref mtext, .int 0, .int 0, .ref mline, .ref mwritten, .int 0, .int 0, .ref mnode, .int 0, .int 0, .int 0, .int 0])), (mtape, eI G 940 (upd (upd (upd (upd ft 16 (((w9.toUInt32 >>> ((24 : Int32).toUInt32 &&& Int32.toUInt32 31)).toInt32) &&& 255)) 17 (((w9.toUInt32 >>> ((16 : Int32).toUInt32 &&& Int32.toUInt32 31)).toInt32) &&& 255)) 18 (((w9.toUInt32 >>> ((8 : Int32).toUInt32 &&& Int32.toUInt32 31)).toInt32) &&& 255)) 19 (((w9.toUInt32 >>> ((0 : Int32).toUInt32 &&& Int32.toUInt32 31)).toInt32) &&& 255)))]) C hw 1 rfl (x_in rfl) rfl rfl dX11_come_22 (fun H locs hw => ?_)
  refine lv_aload_n C.1 C.2.1 dX11_come_23 rfl (lv_at hl 1 rfl) ?_
  refine lv_dup C.1 C.2.1 dX11_come_24 rfl ?_
  refine x_get C hw iwX11 10 rfl 0 rfl 2 (by decide) kw1199 rfl dX11_come_25 ?_
  refine lv_iconst (v := 1) C.1 C.2.1 dX11_come_28 (by decide) ?_
  refine lv_iadd C.1 C.2.1 dX11_come_29 ?_
  refine x_topi (z := 20) (by decide) ?_
  refine x_put (w' := [(qm, .inr (10, [.int 0, .ref mtape, .int 20, .int 0, .int 0, .int 0, .int 0, .int 0, .int 0, .int 0, .int 0, .int 0, .long 0, .int 0, .ref mnow, .ref mread, .ref mkept, .ref msnaps, .ref maside, .ref mname, .ref mreadName, .ref mkeptName, .ref misKept, .ref monces, .int 0, .ref morder, .ref mordered, .int 0, .int 0, .int 0, .int (-1), .int (-1), .ref mtext, .int 0, .int 0, .ref mline, .ref mwritten, .int 0, .int 0, .ref mnode, .int 0, .int 0, .int 0, .int 0])), (mtape, eI G 940 (upd (upd (upd (upd ft 16 (((w9.toUInt32 >>> ((24 : Int32).toUInt32 &&& Int32.toUInt32 31)).toInt32) &&& 255)) 17 (((w9.toUInt32 >>> ((16 : Int32).toUInt32 &&& Int32.toUInt32 31)).toInt32) &&& 255)) 18 (((w9.toUInt32 >>> ((8 : Int32).toUInt32 &&& Int32.toUInt32 31)).toInt32) &&& 255)) 19 (((w9.toUInt32 >>> ((0 : Int32).toUInt32 &&& Int32.toUInt32 31)).toInt32) &&& 255)))]) C hw iwX11 tyX11_ok nmX11 10 rfl 0 rfl 2 (by decide) kw1199 rfl rfl rfl (Nat.le_of_ble_eq_true rfl) rfl dX11_come_30 (fun H locs hw => ?_)
  refine lv_iinc (v := (-8)) (lv' := [(2, .int (-8)), (0, .ref qm), (1, .int w9)]) C.1 C.2.1 dX11_come_33 hl (k := 0) rfl (by decide) (by decide) rfl (fun ls hl => ?_)
  refine lv_goto (tgt := 3) C.1 C.2.1 dX11_come_36 (by decide) ?_
  refine lv_iload_n C.1 C.2.1 dX11_come_3 rfl (lv_at hl 0 rfl) ?_
  refine lv_if_lt (tgt := 39) C.1 C.2.1 dX11_come_4 (by decide) (fun _ => ?_) (fun h9 => absurd (by decide) h9)
  exact x_retv B hw ⟨(upd (upd (upd (upd ft 16 (((w9.toUInt32 >>> ((24 : Int32).toUInt32 &&& Int32.toUInt32 31)).toInt32) &&& 255)) 17 (((w9.toUInt32 >>> ((16 : Int32).toUInt32 &&& Int32.toUInt32 31)).toInt32) &&& 255)) 18 (((w9.toUInt32 >>> ((8 : Int32).toUInt32 &&& Int32.toUInt32 31)).toInt32) &&& 255)) 19 (((w9.toUInt32 >>> ((0 : Int32).toUInt32 &&& Int32.toUInt32 31)).toInt32) &&& 255)), rfl⟩ (Nat.le_of_ble_eq_true rfl) (Nat.le_of_ble_eq_true rfl) dX11_come_39
theorem dX11_feed_0 : decode cX11_feed 0 = .ok (.aload_n 0, 1) := by decide +kernel
theorem dX11_feed_1 : decode cX11_feed 1 = .ok (.iconst 0, 1) := by decide +kernel
theorem dX11_feed_2 : decode cX11_feed 2 = .ok (.putfield 1, 3) := by decide +kernel
theorem dX11_feed_5 : decode cX11_feed 5 = .ok (.aload_n 0, 1) := by decide +kernel
theorem dX11_feed_6 : decode cX11_feed 6 = .ok (.getfield 11, 3) := by decide +kernel
theorem dX11_feed_9 : decode cX11_feed 9 = .ok (.bipush 20, 2) := by decide +kernel
theorem dX11_feed_11 : decode cX11_feed 11 = .ok (.iadd, 1) := by decide +kernel
theorem dX11_feed_12 : decode cX11_feed 12 = .ok (.sipush 940, 3) := by decide +kernel
theorem dX11_feed_15 : decode cX11_feed 15 = .ok (.if_icmp .le 5, 3) := by decide +kernel
theorem dX11_feed_20 : decode cX11_feed 20 = .ok (.aload_n 0, 1) := by decide +kernel
theorem dX11_feed_21 : decode cX11_feed 21 = .ok (.iload_n 1, 1) := by decide +kernel
theorem dX11_feed_22 : decode cX11_feed 22 = .ok (.invokevirtual 14, 3) := by decide +kernel
theorem mwX11_come : MwV yX11_come cX11_come 3 none 1 := ⟨⟨kw1183, kw15, by decide +kernel⟩, kw1181, kS43⟩
theorem dX11_feed_25 : decode cX11_feed 25 = .ok (.aload_n 0, 1) := by decide +kernel
theorem dX11_feed_26 : decode cX11_feed 26 = .ok (.iload_n 2, 1) := by decide +kernel
theorem dX11_feed_27 : decode cX11_feed 27 = .ok (.invokevirtual 14, 3) := by decide +kernel
theorem dX11_feed_30 : decode cX11_feed 30 = .ok (.aload_n 0, 1) := by decide +kernel
theorem dX11_feed_31 : decode cX11_feed 31 = .ok (.iload_n 3, 1) := by decide +kernel
theorem dX11_feed_32 : decode cX11_feed 32 = .ok (.invokevirtual 14, 3) := by decide +kernel
theorem dX11_feed_35 : decode cX11_feed 35 = .ok (.aload_n 0, 1) := by decide +kernel
theorem dX11_feed_36 : decode cX11_feed 36 = .ok (.iload 4, 2) := by decide +kernel
theorem dX11_feed_38 : decode cX11_feed 38 = .ok (.invokevirtual 14, 3) := by decide +kernel
theorem dX11_feed_41 : decode cX11_feed 41 = .ok (.aload_n 0, 1) := by decide +kernel
theorem dX11_feed_42 : decode cX11_feed 42 = .ok (.iload 5, 2) := by decide +kernel
theorem dX11_feed_44 : decode cX11_feed 44 = .ok (.invokevirtual 14, 3) := by decide +kernel
theorem dX11_feed_47 : decode cX11_feed 47 = .ok (.aload_n 0, 1) := by decide +kernel
theorem dX11_feed_48 : decode cX11_feed 48 = .ok (.getfield 11, 3) := by decide +kernel
theorem dX11_feed_51 : decode cX11_feed 51 = .ok (.ireturn, 1) := by decide +kernel
set_option maxHeartbeats 4000000 in
set_option maxRecDepth 100000 in
theorem c_X11_feed {l : Launch} {G : Gc} (qm : Nat) (a1 : Int32) (a2 : Int32) (a3 : Int32) (a4 : Int32) (a5 : Int32) (mtape : Nat) (mnow : Nat) (mread : Nat) (mkept : Nat) (msnaps : Nat) (maside : Nat) (mname : Nat) (mreadName : Nat) (mkeptName : Nat) (misKept : Nat) (monces : Nat) (morder : Nat) (mordered : Nat) (mtext : Nat) (mline : Nat) (mwritten : Nat) (mnode : Nat)  : Ci l yX11_feed cX11_feed 6 (some .int) 1 0 0 G [.ref qm, .int a1, .int a2, .int a3, .int a4, .int a5] [(qm, .inr (10, [.int 0, .ref mtape, .int 0, .int 0, .int 0, .int 0, .int 0, .int 0, .int 0, .int 0, .int 0, .int 0, .long 0, .int 0, .ref mnow, .ref mread, .ref mkept, .ref msnaps, .ref maside, .ref mname, .ref mreadName, .ref mkeptName, .ref misKept, .ref monces, .int 0, .ref morder, .ref mordered, .int 0, .int 0, .int 0, .int (-1), .int (-1), .ref mtext, .int 0, .int 0, .ref mline, .ref mwritten, .int 0, .int 0, .ref mnode, .int 0, .int 0, .int 0, .int 0])), (mtape, eI G 940 (fun _ => 0))] (fun (r9 : Int32) (u9 : va_W) => r9 = 20 ∧ u9 = []) := by
  refine Ci.of (by decide) (Nat.le_of_ble_eq_true rfl) ?_
  intro p e s m below meth c ls A B hw hl
  have C : CallFix p m c cX11_feed 6 s _ gw "LanternStateModel" := B.1
  have hl : lv_has ls 6 [(0, .ref qm), (1, .int a1), (2, .int a2), (3, .int a3), (4, .int a4), (5, .int a5)] := hl
  refine lv_aload_n C.1 C.2.1 dX11_feed_0 rfl (lv_at hl 0 rfl) ?_
  refine lv_iconst (v := 0) C.1 C.2.1 dX11_feed_1 (by decide) ?_
  refine x_put (w' := [(qm, .inr (10, [.int 0, .ref mtape, .int 0, .int 0, .int 0, .int 0, .int 0, .int 0, .int 0, .int 0, .int 0, .int 0, .long 0, .int 0, .ref mnow, .ref mread, .ref mkept, .ref msnaps, .ref maside, .ref mname, .ref mreadName, .ref mkeptName, .ref misKept, .ref monces, .int 0, .ref morder, .ref mordered, .int 0, .int 0, .int 0, .int (-1), .int (-1), .ref mtext, .int 0, .int 0, .ref mline, .ref mwritten, .int 0, .int 0, .ref mnode, .int 0, .int 0, .int 0, .int 0])), (mtape, eI G 940 (fun _ => 0))]) C hw iwX11 tyX11_ok nmX11 10 rfl 0 rfl 0 (by decide) kw1197 rfl rfl rfl (Nat.le_of_ble_eq_true rfl) rfl dX11_feed_2 (fun H locs hw => ?_)
  refine lv_aload_n C.1 C.2.1 dX11_feed_5 rfl (lv_at hl 0 rfl) ?_
  refine x_get C hw iwX11 10 rfl 0 rfl 2 (by decide) kw1199 rfl dX11_feed_6 ?_
  refine lv_bipush (v := 20) C.1 C.2.1 dX11_feed_9 (by decide) ?_
  refine lv_iadd C.1 C.2.1 dX11_feed_11 ?_
  refine x_topi (z := 20) (by decide) ?_
  refine lv_sipush (v := 940) C.1 C.2.1 dX11_feed_12 (by decide) ?_
  refine lv_icmp_le (tgt := 20) C.1 C.2.1 dX11_feed_15 (by decide) (fun _ => ?_) (fun h9 => absurd (by decide) h9)
  refine lv_aload_n C.1 C.2.1 dX11_feed_20 rfl (lv_at hl 0 rfl) ?_
  refine lv_iload_n C.1 C.2.1 dX11_feed_21 rfl (lv_at hl 1 rfl) ?_
  refine x_callvV (As := [.int a1]) (rest := []) (wr := []) C hw (c_X11_come0 qm a1 mtape mnow mread mkept msnaps maside mname mreadName mkeptName misKept monces morder mordered mtext mline mwritten mnode (fun _ => 0)) mwX11_come kw1179 [0, 1] [] rfl rfl rfl rfl (by decide) 0 rfl rfl rfl rfl hl.1 rfl (Nat.le_of_ble_eq_true rfl) ⟨(Nat.le_of_ble_eq_true rfl), (Nat.le_of_ble_eq_true rfl)⟩ ⟨(Nat.le_of_ble_eq_true rfl), (Nat.le_of_ble_eq_true rfl)⟩ dX11_feed_22 (fun  u9 H locs hp9 hw => ?_)
  obtain ⟨gt_1, rfl⟩ := hp9
  have hw : Wd G s A [(qm, .inr (10, [.int 0, .ref mtape, .int 4, .int 0, .int 0, .int 0, .int 0, .int 0, .int 0, .int 0, .int 0, .int 0, .long 0, .int 0, .ref mnow, .ref mread, .ref mkept, .ref msnaps, .ref maside, .ref mname, .ref mreadName, .ref mkeptName, .ref misKept, .ref monces, .int 0, .ref morder, .ref mordered, .int 0, .int 0, .int 0, .int (-1), .int (-1), .ref mtext, .int 0, .int 0, .ref mline, .ref mwritten, .int 0, .int 0, .ref mnode, .int 0, .int 0, .int 0, .int 0])), (mtape, eI G 940 gt_1)] H _ := hw
  refine lv_aload_n C.1 C.2.1 dX11_feed_25 rfl (lv_at hl 0 rfl) ?_
  refine lv_iload_n C.1 C.2.1 dX11_feed_26 rfl (lv_at hl 2 rfl) ?_
  refine x_callvV (As := [.int a2]) (rest := []) (wr := []) C hw (c_X11_come4 qm a2 mtape mnow mread mkept msnaps maside mname mreadName mkeptName misKept monces morder mordered mtext mline mwritten mnode gt_1) mwX11_come kw1179 [0, 1] [] rfl rfl rfl rfl (by decide) 0 rfl rfl rfl rfl hl.1 rfl (Nat.le_of_ble_eq_true rfl) ⟨(Nat.le_of_ble_eq_true rfl), (Nat.le_of_ble_eq_true rfl)⟩ ⟨(Nat.le_of_ble_eq_true rfl), (Nat.le_of_ble_eq_true rfl)⟩ dX11_feed_27 (fun  u9 H locs hp9 hw => ?_)
  obtain ⟨gt_2, rfl⟩ := hp9
  have hw : Wd G s A [(qm, .inr (10, [.int 0, .ref mtape, .int 8, .int 0, .int 0, .int 0, .int 0, .int 0, .int 0, .int 0, .int 0, .int 0, .long 0, .int 0, .ref mnow, .ref mread, .ref mkept, .ref msnaps, .ref maside, .ref mname, .ref mreadName, .ref mkeptName, .ref misKept, .ref monces, .int 0, .ref morder, .ref mordered, .int 0, .int 0, .int 0, .int (-1), .int (-1), .ref mtext, .int 0, .int 0, .ref mline, .ref mwritten, .int 0, .int 0, .ref mnode, .int 0, .int 0, .int 0, .int 0])), (mtape, eI G 940 gt_2)] H _ := hw
  refine lv_aload_n C.1 C.2.1 dX11_feed_30 rfl (lv_at hl 0 rfl) ?_
  refine lv_iload_n C.1 C.2.1 dX11_feed_31 rfl (lv_at hl 3 rfl) ?_
  refine x_callvV (As := [.int a3]) (rest := []) (wr := []) C hw (c_X11_come8 qm a3 mtape mnow mread mkept msnaps maside mname mreadName mkeptName misKept monces morder mordered mtext mline mwritten mnode gt_2) mwX11_come kw1179 [0, 1] [] rfl rfl rfl rfl (by decide) 0 rfl rfl rfl rfl hl.1 rfl (Nat.le_of_ble_eq_true rfl) ⟨(Nat.le_of_ble_eq_true rfl), (Nat.le_of_ble_eq_true rfl)⟩ ⟨(Nat.le_of_ble_eq_true rfl), (Nat.le_of_ble_eq_true rfl)⟩ dX11_feed_32 (fun  u9 H locs hp9 hw => ?_)
  obtain ⟨gt_3, rfl⟩ := hp9
  have hw : Wd G s A [(qm, .inr (10, [.int 0, .ref mtape, .int 12, .int 0, .int 0, .int 0, .int 0, .int 0, .int 0, .int 0, .int 0, .int 0, .long 0, .int 0, .ref mnow, .ref mread, .ref mkept, .ref msnaps, .ref maside, .ref mname, .ref mreadName, .ref mkeptName, .ref misKept, .ref monces, .int 0, .ref morder, .ref mordered, .int 0, .int 0, .int 0, .int (-1), .int (-1), .ref mtext, .int 0, .int 0, .ref mline, .ref mwritten, .int 0, .int 0, .ref mnode, .int 0, .int 0, .int 0, .int 0])), (mtape, eI G 940 gt_3)] H _ := hw
  refine lv_aload_n C.1 C.2.1 dX11_feed_35 rfl (lv_at hl 0 rfl) ?_
  refine lv_iload C.1 C.2.1 dX11_feed_36 (lv_at hl 4 rfl) ?_
  refine x_callvV (As := [.int a4]) (rest := []) (wr := []) C hw (c_X11_come12 qm a4 mtape mnow mread mkept msnaps maside mname mreadName mkeptName misKept monces morder mordered mtext mline mwritten mnode gt_3) mwX11_come kw1179 [0, 1] [] rfl rfl rfl rfl (by decide) 0 rfl rfl rfl rfl hl.1 rfl (Nat.le_of_ble_eq_true rfl) ⟨(Nat.le_of_ble_eq_true rfl), (Nat.le_of_ble_eq_true rfl)⟩ ⟨(Nat.le_of_ble_eq_true rfl), (Nat.le_of_ble_eq_true rfl)⟩ dX11_feed_38 (fun  u9 H locs hp9 hw => ?_)
  obtain ⟨gt_4, rfl⟩ := hp9
  have hw : Wd G s A [(qm, .inr (10, [.int 0, .ref mtape, .int 16, .int 0, .int 0, .int 0, .int 0, .int 0, .int 0, .int 0, .int 0, .int 0, .long 0, .int 0, .ref mnow, .ref mread, .ref mkept, .ref msnaps, .ref maside, .ref mname, .ref mreadName, .ref mkeptName, .ref misKept, .ref monces, .int 0, .ref morder, .ref mordered, .int 0, .int 0, .int 0, .int (-1), .int (-1), .ref mtext, .int 0, .int 0, .ref mline, .ref mwritten, .int 0, .int 0, .ref mnode, .int 0, .int 0, .int 0, .int 0])), (mtape, eI G 940 gt_4)] H _ := hw
  refine lv_aload_n C.1 C.2.1 dX11_feed_41 rfl (lv_at hl 0 rfl) ?_
  refine lv_iload C.1 C.2.1 dX11_feed_42 (lv_at hl 5 rfl) ?_
  refine x_callvV (As := [.int a5]) (rest := []) (wr := []) C hw (c_X11_come16 qm a5 mtape mnow mread mkept msnaps maside mname mreadName mkeptName misKept monces morder mordered mtext mline mwritten mnode gt_4) mwX11_come kw1179 [0, 1] [] rfl rfl rfl rfl (by decide) 0 rfl rfl rfl rfl hl.1 rfl (Nat.le_of_ble_eq_true rfl) ⟨(Nat.le_of_ble_eq_true rfl), (Nat.le_of_ble_eq_true rfl)⟩ ⟨(Nat.le_of_ble_eq_true rfl), (Nat.le_of_ble_eq_true rfl)⟩ dX11_feed_44 (fun  u9 H locs hp9 hw => ?_)
  obtain ⟨gt_5, rfl⟩ := hp9
  have hw : Wd G s A [(qm, .inr (10, [.int 0, .ref mtape, .int 20, .int 0, .int 0, .int 0, .int 0, .int 0, .int 0, .int 0, .int 0, .int 0, .long 0, .int 0, .ref mnow, .ref mread, .ref mkept, .ref msnaps, .ref maside, .ref mname, .ref mreadName, .ref mkeptName, .ref misKept, .ref monces, .int 0, .ref morder, .ref mordered, .int 0, .int 0, .int 0, .int (-1), .int (-1), .ref mtext, .int 0, .int 0, .ref mline, .ref mwritten, .int 0, .int 0, .ref mnode, .int 0, .int 0, .int 0, .int 0])), (mtape, eI G 940 gt_5)] H _ := hw
  refine lv_aload_n C.1 C.2.1 dX11_feed_47 rfl (lv_at hl 0 rfl) ?_
  refine x_get C hw iwX11 10 rfl 0 rfl 2 (by decide) kw1199 rfl dX11_feed_48 ?_
  have hw := hw.sub (w' := []) [] rfl rfl
  exact x_reti B hw ⟨rfl, rfl⟩ (Nat.le_of_ble_eq_true rfl) (Nat.le_of_ble_eq_true rfl) dX11_feed_51
theorem dX11_end_0 : decode cX11_end 0 = .ok (.aload_n 0, 1) := by decide +kernel
theorem dX11_end_1 : decode cX11_end 1 = .ok (.iconst 0, 1) := by decide +kernel
theorem dX11_end_2 : decode cX11_end 2 = .ok (.putfield 1, 3) := by decide +kernel
theorem dX11_end_5 : decode cX11_end 5 = .ok (.iload_n 1, 1) := by decide +kernel
theorem dX11_end_6 : decode cX11_end 6 = .ok (.ifCond .lt 11, 3) := by decide +kernel
theorem dX11_end_9 : decode cX11_end 9 = .ok (.iload_n 1, 1) := by decide +kernel
theorem dX11_end_10 : decode cX11_end 10 = .ok (.aload_n 0, 1) := by decide +kernel
theorem dX11_end_11 : decode cX11_end 11 = .ok (.getfield 11, 3) := by decide +kernel
theorem dX11_end_14 : decode cX11_end 14 = .ok (.if_icmp .le 5, 3) := by decide +kernel
theorem dX11_end_19 : decode cX11_end 19 = .ok (.aload_n 0, 1) := by decide +kernel
theorem dX11_end_20 : decode cX11_end 20 = .ok (.iload_n 1, 1) := by decide +kernel
theorem dX11_end_21 : decode cX11_end 21 = .ok (.putfield 11, 3) := by decide +kernel
theorem dX11_end_24 : decode cX11_end 24 = .ok (.iconst 1, 1) := by decide +kernel
theorem dX11_end_25 : decode cX11_end 25 = .ok (.ireturn, 1) := by decide +kernel
set_option maxHeartbeats 4000000 in
set_option maxRecDepth 100000 in
theorem c_X11_end__0 {l : Launch} {G : Gc} (qm : Nat) (mtape : Nat) (mnow : Nat) (mread : Nat) (mkept : Nat) (msnaps : Nat) (maside : Nat) (mname : Nat) (mreadName : Nat) (mkeptName : Nat) (misKept : Nat) (monces : Nat) (morder : Nat) (mordered : Nat) (mtext : Nat) (mline : Nat) (mwritten : Nat) (mnode : Nat)  : Ci l yX11_end cX11_end 2 (some .boolean) 0 0 0 G [.ref qm, .int 0] [(qm, .inr (10, [.int 0, .ref mtape, .int 0, .int 0, .int 0, .int 0, .int 0, .int 0, .int 0, .int 0, .int 0, .int 0, .long 0, .int 0, .ref mnow, .ref mread, .ref mkept, .ref msnaps, .ref maside, .ref mname, .ref mreadName, .ref mkeptName, .ref misKept, .ref monces, .int 0, .ref morder, .ref mordered, .int 0, .int 0, .int 0, .int (-1), .int (-1), .ref mtext, .int 0, .int 0, .ref mline, .ref mwritten, .int 0, .int 0, .ref mnode, .int 0, .int 0, .int 0, .int 0]))] (fun (r9 : Int32) (u9 : va_W) => r9 = 1 ∧ u9 = []) := by
  refine Ci.of (by decide) (Nat.le_of_ble_eq_true rfl) ?_
  intro p e s m below meth c ls A B hw hl
  have C : CallFix p m c cX11_end 2 s _ gw "LanternStateModel" := B.1
  have hl : lv_has ls 2 [(0, .ref qm), (1, .int 0)] := hl
  refine lv_aload_n C.1 C.2.1 dX11_end_0 rfl (lv_at hl 0 rfl) ?_
  refine lv_iconst (v := 0) C.1 C.2.1 dX11_end_1 (by decide) ?_
  refine x_put (w' := [(qm, .inr (10, [.int 0, .ref mtape, .int 0, .int 0, .int 0, .int 0, .int 0, .int 0, .int 0, .int 0, .int 0, .int 0, .long 0, .int 0, .ref mnow, .ref mread, .ref mkept, .ref msnaps, .ref maside, .ref mname, .ref mreadName, .ref mkeptName, .ref misKept, .ref monces, .int 0, .ref morder, .ref mordered, .int 0, .int 0, .int 0, .int (-1), .int (-1), .ref mtext, .int 0, .int 0, .ref mline, .ref mwritten, .int 0, .int 0, .ref mnode, .int 0, .int 0, .int 0, .int 0]))]) C hw iwX11 tyX11_ok nmX11 10 rfl 0 rfl 0 (by decide) kw1197 rfl rfl rfl (Nat.le_of_ble_eq_true rfl) rfl dX11_end_2 (fun H locs hw => ?_)
  refine lv_iload_n C.1 C.2.1 dX11_end_5 rfl (lv_at hl 1 rfl) ?_
  refine lv_if_lt (tgt := 17) C.1 C.2.1 dX11_end_6 (by decide) (fun h9 => absurd h9 (by decide)) (fun _ => ?_)
  refine lv_iload_n C.1 C.2.1 dX11_end_9 rfl (lv_at hl 1 rfl) ?_
  refine lv_aload_n C.1 C.2.1 dX11_end_10 rfl (lv_at hl 0 rfl) ?_
  refine x_get C hw iwX11 10 rfl 0 rfl 2 (by decide) kw1199 rfl dX11_end_11 ?_
  refine lv_icmp_le (tgt := 19) C.1 C.2.1 dX11_end_14 (by decide) (fun _ => ?_) (fun h9 => absurd (by decide) h9)
  refine lv_aload_n C.1 C.2.1 dX11_end_19 rfl (lv_at hl 0 rfl) ?_
  refine lv_iload_n C.1 C.2.1 dX11_end_20 rfl (lv_at hl 1 rfl) ?_
  refine x_put (w' := [(qm, .inr (10, [.int 0, .ref mtape, .int 0, .int 0, .int 0, .int 0, .int 0, .int 0, .int 0, .int 0, .int 0, .int 0, .long 0, .int 0, .ref mnow, .ref mread, .ref mkept, .ref msnaps, .ref maside, .ref mname, .ref mreadName, .ref mkeptName, .ref misKept, .ref monces, .int 0, .ref morder, .ref mordered, .int 0, .int 0, .int 0, .int (-1), .int (-1), .ref mtext, .int 0, .int 0, .ref mline, .ref mwritten, .int 0, .int 0, .ref mnode, .int 0, .int 0, .int 0, .int 0]))]) C hw iwX11 tyX11_ok nmX11 10 rfl 0 rfl 2 (by decide) kw1199 rfl rfl rfl (Nat.le_of_ble_eq_true rfl) rfl dX11_end_21 (fun H locs hw => ?_)
  refine lv_iconst (v := 1) C.1 C.2.1 dX11_end_24 (by decide) ?_
  have hw := hw.sub (w' := []) [] rfl rfl
  exact x_retz B hw rfl ⟨rfl, rfl⟩ (Nat.le_of_ble_eq_true rfl) (Nat.le_of_ble_eq_true rfl) dX11_end_25
theorem dX11_end_17 : decode cX11_end 17 = .ok (.iconst 0, 1) := by decide +kernel
theorem dX11_end_18 : decode cX11_end 18 = .ok (.ireturn, 1) := by decide +kernel
set_option maxHeartbeats 4000000 in
set_option maxRecDepth 100000 in
theorem c_X11_end__N {l : Launch} {G : Gc} (qm : Nat) (a1 : Int32) (mtape : Nat) (mnow : Nat) (mread : Nat) (mkept : Nat) (msnaps : Nat) (maside : Nat) (mname : Nat) (mreadName : Nat) (mkeptName : Nat) (misKept : Nat) (monces : Nat) (morder : Nat) (mordered : Nat) (mtext : Nat) (mline : Nat) (mwritten : Nat) (mnode : Nat) (hn : ¬ a1 = 0) : Ci l yX11_end cX11_end 2 (some .boolean) 0 0 0 G [.ref qm, .int a1] [(qm, .inr (10, [.int 0, .ref mtape, .int 0, .int 0, .int 0, .int 0, .int 0, .int 0, .int 0, .int 0, .int 0, .int 0, .long 0, .int 0, .ref mnow, .ref mread, .ref mkept, .ref msnaps, .ref maside, .ref mname, .ref mreadName, .ref mkeptName, .ref misKept, .ref monces, .int 0, .ref morder, .ref mordered, .int 0, .int 0, .int 0, .int (-1), .int (-1), .ref mtext, .int 0, .int 0, .ref mline, .ref mwritten, .int 0, .int 0, .ref mnode, .int 0, .int 0, .int 0, .int 0]))] (fun (r9 : Int32) (u9 : va_W) => r9 = 0 ∧ u9 = []) := by
  refine Ci.of (by decide) (Nat.le_of_ble_eq_true rfl) ?_
  intro p e s m below meth c ls A B hw hl
  have C : CallFix p m c cX11_end 2 s _ gw "LanternStateModel" := B.1
  have hl : lv_has ls 2 [(0, .ref qm), (1, .int a1)] := hl
  refine lv_aload_n C.1 C.2.1 dX11_end_0 rfl (lv_at hl 0 rfl) ?_
  refine lv_iconst (v := 0) C.1 C.2.1 dX11_end_1 (by decide) ?_
  refine x_put (w' := [(qm, .inr (10, [.int 0, .ref mtape, .int 0, .int 0, .int 0, .int 0, .int 0, .int 0, .int 0, .int 0, .int 0, .int 0, .long 0, .int 0, .ref mnow, .ref mread, .ref mkept, .ref msnaps, .ref maside, .ref mname, .ref mreadName, .ref mkeptName, .ref misKept, .ref monces, .int 0, .ref morder, .ref mordered, .int 0, .int 0, .int 0, .int (-1), .int (-1), .ref mtext, .int 0, .int 0, .ref mline, .ref mwritten, .int 0, .int 0, .ref mnode, .int 0, .int 0, .int 0, .int 0]))]) C hw iwX11 tyX11_ok nmX11 10 rfl 0 rfl 0 (by decide) kw1197 rfl rfl rfl (Nat.le_of_ble_eq_true rfl) rfl dX11_end_2 (fun H locs hw => ?_)
  refine lv_iload_n C.1 C.2.1 dX11_end_5 rfl (lv_at hl 1 rfl) ?_
  refine lv_if_lt (tgt := 17) C.1 C.2.1 dX11_end_6 (by decide) (fun c_6 => ?_) (fun c_6 => ?_)
  · skip
    refine lv_iconst (v := 0) C.1 C.2.1 dX11_end_17 (by decide) ?_
    have hw := hw.sub (w' := []) [] rfl rfl
    exact x_retz B hw rfl ⟨rfl, rfl⟩ (Nat.le_of_ble_eq_true rfl) (Nat.le_of_ble_eq_true rfl) dX11_end_18
  · skip
    refine lv_iload_n C.1 C.2.1 dX11_end_9 rfl (lv_at hl 1 rfl) ?_
    refine lv_aload_n C.1 C.2.1 dX11_end_10 rfl (lv_at hl 0 rfl) ?_
    refine x_get C hw iwX11 10 rfl 0 rfl 2 (by decide) kw1199 rfl dX11_end_11 ?_
    refine lv_icmp_le (tgt := 19) C.1 C.2.1 dX11_end_14 (by decide) (fun h9 => absurd h9 (x_nle c_6 hn)) (fun _ => ?_)
    refine lv_iconst (v := 0) C.1 C.2.1 dX11_end_17 (by decide) ?_
    have hw := hw.sub (w' := []) [] rfl rfl
    exact x_retz B hw rfl ⟨rfl, rfl⟩ (Nat.le_of_ble_eq_true rfl) (Nat.le_of_ble_eq_true rfl) dX11_end_18
theorem dX11_fault_0 : decode cX11_fault 0 = .ok (.aload_n 0, 1) := by decide +kernel
theorem dX11_fault_1 : decode cX11_fault 1 = .ok (.iconst 0, 1) := by decide +kernel
theorem dX11_fault_2 : decode cX11_fault 2 = .ok (.putfield 1, 3) := by decide +kernel
theorem dX11_fault_5 : decode cX11_fault 5 = .ok (.aload_n 0, 1) := by decide +kernel
theorem dX11_fault_6 : decode cX11_fault 6 = .ok (.getfield 66, 3) := by decide +kernel
theorem dX11_fault_9 : decode cX11_fault 9 = .ok (.ireturn, 1) := by decide +kernel
set_option maxHeartbeats 4000000 in
set_option maxRecDepth 100000 in
theorem c_X11_fault {l : Launch} {G : Gc} (qm : Nat) (mtape : Nat) (mnow : Nat) (mread : Nat) (mkept : Nat) (msnaps : Nat) (maside : Nat) (mname : Nat) (mreadName : Nat) (mkeptName : Nat) (misKept : Nat) (monces : Nat) (morder : Nat) (mordered : Nat) (mtext : Nat) (mline : Nat) (mwritten : Nat) (mnode : Nat)  : Ci l yX11_fault cX11_fault 1 (some .int) 0 0 0 G [.ref qm] [(qm, .inr (10, [.int 0, .ref mtape, .int 0, .int 0, .int 0, .int 0, .int 0, .int 0, .int 0, .int 0, .int 0, .int 0, .long 0, .int 0, .ref mnow, .ref mread, .ref mkept, .ref msnaps, .ref maside, .ref mname, .ref mreadName, .ref mkeptName, .ref misKept, .ref monces, .int 0, .ref morder, .ref mordered, .int 0, .int 0, .int 0, .int (-1), .int (-1), .ref mtext, .int 0, .int 0, .ref mline, .ref mwritten, .int 0, .int 0, .ref mnode, .int 0, .int 0, .int 0, .int 0]))] (fun (r9 : Int32) (u9 : va_W) => r9 = 0 ∧ u9 = []) := by
  refine Ci.of (by decide) (Nat.le_of_ble_eq_true rfl) ?_
  intro p e s m below meth c ls A B hw hl
  have C : CallFix p m c cX11_fault 1 s _ gw "LanternStateModel" := B.1
  have hl : lv_has ls 1 [(0, .ref qm)] := hl
  refine lv_aload_n C.1 C.2.1 dX11_fault_0 rfl (lv_at hl 0 rfl) ?_
  refine lv_iconst (v := 0) C.1 C.2.1 dX11_fault_1 (by decide) ?_
  refine x_put (w' := [(qm, .inr (10, [.int 0, .ref mtape, .int 0, .int 0, .int 0, .int 0, .int 0, .int 0, .int 0, .int 0, .int 0, .int 0, .long 0, .int 0, .ref mnow, .ref mread, .ref mkept, .ref msnaps, .ref maside, .ref mname, .ref mreadName, .ref mkeptName, .ref misKept, .ref monces, .int 0, .ref morder, .ref mordered, .int 0, .int 0, .int 0, .int (-1), .int (-1), .ref mtext, .int 0, .int 0, .ref mline, .ref mwritten, .int 0, .int 0, .ref mnode, .int 0, .int 0, .int 0, .int 0]))]) C hw iwX11 tyX11_ok nmX11 10 rfl 0 rfl 0 (by decide) kw1197 rfl rfl rfl (Nat.le_of_ble_eq_true rfl) rfl dX11_fault_2 (fun H locs hw => ?_)
  refine lv_aload_n C.1 C.2.1 dX11_fault_5 rfl (lv_at hl 0 rfl) ?_
  refine x_get C hw iwX11 10 rfl 0 rfl 10 (by decide) kw1207 rfl dX11_fault_6 ?_
  have hw := hw.sub (w' := []) [] rfl rfl
  exact x_reti B hw ⟨rfl, rfl⟩ (Nat.le_of_ble_eq_true rfl) (Nat.le_of_ble_eq_true rfl) dX11_fault_9
theorem dX11_refuse_0 : decode cX11_refuse 0 = .ok (.aload_n 0, 1) := by decide +kernel
theorem dX11_refuse_1 : decode cX11_refuse 1 = .ok (.iconst 1, 1) := by decide +kernel
theorem dX11_refuse_2 : decode cX11_refuse 2 = .ok (.putfield 1, 3) := by decide +kernel
theorem dX11_refuse_5 : decode cX11_refuse 5 = .ok (.iconst 0, 1) := by decide +kernel
theorem dX11_refuse_6 : decode cX11_refuse 6 = .ok (.ireturn, 1) := by decide +kernel
set_option maxHeartbeats 4000000 in
set_option maxRecDepth 100000 in
theorem c_X11_refuse {l : Launch} {G : Gc} (qm : Nat) (mtape : Nat) (mnow : Nat) (mread : Nat) (mkept : Nat) (msnaps : Nat) (maside : Nat) (mname : Nat) (mreadName : Nat) (mkeptName : Nat) (misKept : Nat) (monces : Nat) (morder : Nat) (mordered : Nat) (mtext : Nat) (mline : Nat) (mwritten : Nat) (mnode : Nat)  : Ci l yX11_refuse cX11_refuse 1 (some .int) 0 0 0 G [.ref qm] [(qm, .inr (10, [.int 0, .ref mtape, .int 0, .int 0, .int 0, .int 0, .int 0, .int 0, .int 0, .int 0, .int 0, .int 0, .long 0, .int 0, .ref mnow, .ref mread, .ref mkept, .ref msnaps, .ref maside, .ref mname, .ref mreadName, .ref mkeptName, .ref misKept, .ref monces, .int 0, .ref morder, .ref mordered, .int 0, .int 0, .int 0, .int (-1), .int (-1), .ref mtext, .int 0, .int 0, .ref mline, .ref mwritten, .int 0, .int 0, .ref mnode, .int 0, .int 0, .int 0, .int 0]))] (fun (r9 : Int32) (u9 : va_W) => r9 = 0 ∧ u9 = [(qm, .inr (10, [.int 1, .ref mtape, .int 0, .int 0, .int 0, .int 0, .int 0, .int 0, .int 0, .int 0, .int 0, .int 0, .long 0, .int 0, .ref mnow, .ref mread, .ref mkept, .ref msnaps, .ref maside, .ref mname, .ref mreadName, .ref mkeptName, .ref misKept, .ref monces, .int 0, .ref morder, .ref mordered, .int 0, .int 0, .int 0, .int (-1), .int (-1), .ref mtext, .int 0, .int 0, .ref mline, .ref mwritten, .int 0, .int 0, .ref mnode, .int 0, .int 0, .int 0, .int 0]))]) := by
  refine Ci.of (by decide) (Nat.le_of_ble_eq_true rfl) ?_
  intro p e s m below meth c ls A B hw hl
  have C : CallFix p m c cX11_refuse 1 s _ gw "LanternStateModel" := B.1
  have hl : lv_has ls 1 [(0, .ref qm)] := hl
  refine lv_aload_n C.1 C.2.1 dX11_refuse_0 rfl (lv_at hl 0 rfl) ?_
  refine lv_iconst (v := 1) C.1 C.2.1 dX11_refuse_1 (by decide) ?_
  refine x_put (w' := [(qm, .inr (10, [.int 1, .ref mtape, .int 0, .int 0, .int 0, .int 0, .int 0, .int 0, .int 0, .int 0, .int 0, .int 0, .long 0, .int 0, .ref mnow, .ref mread, .ref mkept, .ref msnaps, .ref maside, .ref mname, .ref mreadName, .ref mkeptName, .ref misKept, .ref monces, .int 0, .ref morder, .ref mordered, .int 0, .int 0, .int 0, .int (-1), .int (-1), .ref mtext, .int 0, .int 0, .ref mline, .ref mwritten, .int 0, .int 0, .ref mnode, .int 0, .int 0, .int 0, .int 0]))]) C hw iwX11 tyX11_ok nmX11 10 rfl 0 rfl 0 (by decide) kw1197 rfl rfl rfl (Nat.le_of_ble_eq_true rfl) rfl dX11_refuse_2 (fun H locs hw => ?_)
  refine lv_iconst (v := 0) C.1 C.2.1 dX11_refuse_5 (by decide) ?_
  exact x_reti B hw ⟨rfl, rfl⟩ (Nat.le_of_ble_eq_true rfl) (Nat.le_of_ble_eq_true rfl) dX11_refuse_6
theorem dX11_thrown_0 : decode cX11_thrown 0 = .ok (.aload_n 0, 1) := by decide +kernel
theorem dX11_thrown_1 : decode cX11_thrown 1 = .ok (.getfield 1, 3) := by decide +kernel
theorem dX11_thrown_4 : decode cX11_thrown 4 = .ok (.ireturn, 1) := by decide +kernel
set_option maxHeartbeats 4000000 in
set_option maxRecDepth 100000 in
theorem c_X11_thrown {l : Launch} {G : Gc} (qm : Nat) (t9 : Int32) (mtape : Nat) (mnow : Nat) (mread : Nat) (mkept : Nat) (msnaps : Nat) (maside : Nat) (mname : Nat) (mreadName : Nat) (mkeptName : Nat) (misKept : Nat) (monces : Nat) (morder : Nat) (mordered : Nat) (mtext : Nat) (mline : Nat) (mwritten : Nat) (mnode : Nat)  : Ci l yX11_thrown cX11_thrown 1 (some .int) 0 0 0 G [.ref qm] [(qm, .inr (10, [.int t9, .ref mtape, .int 0, .int 0, .int 0, .int 0, .int 0, .int 0, .int 0, .int 0, .int 0, .int 0, .long 0, .int 0, .ref mnow, .ref mread, .ref mkept, .ref msnaps, .ref maside, .ref mname, .ref mreadName, .ref mkeptName, .ref misKept, .ref monces, .int 0, .ref morder, .ref mordered, .int 0, .int 0, .int 0, .int (-1), .int (-1), .ref mtext, .int 0, .int 0, .ref mline, .ref mwritten, .int 0, .int 0, .ref mnode, .int 0, .int 0, .int 0, .int 0]))] (fun (r9 : Int32) (u9 : va_W) => r9 = t9 ∧ u9 = [(qm, .inr (10, [.int t9, .ref mtape, .int 0, .int 0, .int 0, .int 0, .int 0, .int 0, .int 0, .int 0, .int 0, .int 0, .long 0, .int 0, .ref mnow, .ref mread, .ref mkept, .ref msnaps, .ref maside, .ref mname, .ref mreadName, .ref mkeptName, .ref misKept, .ref monces, .int 0, .ref morder, .ref mordered, .int 0, .int 0, .int 0, .int (-1), .int (-1), .ref mtext, .int 0, .int 0, .ref mline, .ref mwritten, .int 0, .int 0, .ref mnode, .int 0, .int 0, .int 0, .int 0]))]) := by
  refine Ci.of (by decide) (Nat.le_of_ble_eq_true rfl) ?_
  intro p e s m below meth c ls A B hw hl
  have C : CallFix p m c cX11_thrown 1 s _ gw "LanternStateModel" := B.1
  have hl : lv_has ls 1 [(0, .ref qm)] := hl
  refine lv_aload_n C.1 C.2.1 dX11_thrown_0 rfl (lv_at hl 0 rfl) ?_
  refine x_get C hw iwX11 10 rfl 0 rfl 0 (by decide) kw1197 rfl dX11_thrown_1 ?_
  exact x_reti B hw ⟨rfl, rfl⟩ (Nat.le_of_ble_eq_true rfl) (Nat.le_of_ble_eq_true rfl) dX11_thrown_4
theorem dX11_slide_0 : decode cX11_slide 0 = .ok (.aload_n 0, 1) := by decide +kernel
theorem dX11_slide_1 : decode cX11_slide 1 = .ok (.iconst 0, 1) := by decide +kernel
theorem dX11_slide_2 : decode cX11_slide 2 = .ok (.putfield 1, 3) := by decide +kernel
theorem dX11_slide_5 : decode cX11_slide 5 = .ok (.aload_n 0, 1) := by decide +kernel
theorem dX11_slide_6 : decode cX11_slide 6 = .ok (.iload_n 1, 1) := by decide +kernel
theorem dX11_slide_7 : decode cX11_slide 7 = .ok (.invokevirtual 237, 3) := by decide +kernel
theorem mwX11_isSlide : MwV yX11_isSlide cX11_isSlide 2 (some .boolean) 1 := ⟨⟨kw1472, kw15, by decide +kernel⟩, kw1471, kS70⟩
theorem dX11_slide_10 : decode cX11_slide 10 = .ok (.ifCond .ne 8, 3) := by decide +kernel
theorem dX11_slide_13 : decode cX11_slide 13 = .ok (.aload_n 0, 1) := by decide +kernel
theorem dX11_slide_14 : decode cX11_slide 14 = .ok (.invokevirtual 240, 3) := by decide +kernel
theorem mwX11_refuse : MwV yX11_refuse cX11_refuse 1 (some .int) 0 := ⟨⟨kw1476, kw15, by decide +kernel⟩, kw1475, kS71⟩
theorem dX11_slide_17 : decode cX11_slide 17 = .ok (.ireturn, 1) := by decide +kernel
set_option maxHeartbeats 4000000 in
set_option maxRecDepth 100000 in
theorem c_X11_slide {l : Launch} {G : Gc} (qm : Nat) (a1 : Int32) (a2 : Int32) (mtape : Nat) (mnow : Nat) (mread : Nat) (mkept : Nat) (msnaps : Nat) (maside : Nat) (mname : Nat) (mreadName : Nat) (mkeptName : Nat) (misKept : Nat) (monces : Nat) (morder : Nat) (mordered : Nat) (mtext : Nat) (mline : Nat) (mwritten : Nat) (mnode : Nat)  : Ci l yX11_slide cX11_slide 3 (some .int) 2 0 0 G [.ref qm, .int a1, .int a2] [(qm, .inr (10, [.int 0, .ref mtape, .int 0, .int 0, .int 0, .int 0, .int 0, .int 0, .int 0, .int 0, .int 0, .int 0, .long 0, .int 0, .ref mnow, .ref mread, .ref mkept, .ref msnaps, .ref maside, .ref mname, .ref mreadName, .ref mkeptName, .ref misKept, .ref monces, .int 0, .ref morder, .ref mordered, .int 0, .int 0, .int 0, .int (-1), .int (-1), .ref mtext, .int 0, .int 0, .ref mline, .ref mwritten, .int 0, .int 0, .ref mnode, .int 0, .int 0, .int 0, .int 0])), (mnow, eI G 339 nw0)] (fun (r9 : Int32) (u9 : va_W) => r9 = 0 ∧ u9 = [(qm, .inr (10, [.int 1, .ref mtape, .int 0, .int 0, .int 0, .int 0, .int 0, .int 0, .int 0, .int 0, .int 0, .int 0, .long 0, .int 0, .ref mnow, .ref mread, .ref mkept, .ref msnaps, .ref maside, .ref mname, .ref mreadName, .ref mkeptName, .ref misKept, .ref monces, .int 0, .ref morder, .ref mordered, .int 0, .int 0, .int 0, .int (-1), .int (-1), .ref mtext, .int 0, .int 0, .ref mline, .ref mwritten, .int 0, .int 0, .ref mnode, .int 0, .int 0, .int 0, .int 0]))]) := by
  refine Ci.of (by decide) (Nat.le_of_ble_eq_true rfl) ?_
  intro p e s m below meth c ls A B hw hl
  have C : CallFix p m c cX11_slide 3 s _ gw "LanternStateModel" := B.1
  have hl : lv_has ls 3 [(0, .ref qm), (1, .int a1), (2, .int a2)] := hl
  refine lv_aload_n C.1 C.2.1 dX11_slide_0 rfl (lv_at hl 0 rfl) ?_
  refine lv_iconst (v := 0) C.1 C.2.1 dX11_slide_1 (by decide) ?_
  refine x_put (w' := [(qm, .inr (10, [.int 0, .ref mtape, .int 0, .int 0, .int 0, .int 0, .int 0, .int 0, .int 0, .int 0, .int 0, .int 0, .long 0, .int 0, .ref mnow, .ref mread, .ref mkept, .ref msnaps, .ref maside, .ref mname, .ref mreadName, .ref mkeptName, .ref misKept, .ref monces, .int 0, .ref morder, .ref mordered, .int 0, .int 0, .int 0, .int (-1), .int (-1), .ref mtext, .int 0, .int 0, .ref mline, .ref mwritten, .int 0, .int 0, .ref mnode, .int 0, .int 0, .int 0, .int 0])), (mnow, eI G 339 nw0)]) C hw iwX11 tyX11_ok nmX11 10 rfl 0 rfl 0 (by decide) kw1197 rfl rfl rfl (Nat.le_of_ble_eq_true rfl) rfl dX11_slide_2 (fun H locs hw => ?_)
  refine lv_aload_n C.1 C.2.1 dX11_slide_5 rfl (lv_at hl 0 rfl) ?_
  refine lv_iload_n C.1 C.2.1 dX11_slide_6 rfl (lv_at hl 1 rfl) ?_
  refine x_calliV (As := [.int a1]) (rest := []) (wr := []) C hw (c_X11_isSlide qm a1 mtape mnow mread mkept msnaps maside mname mreadName mkeptName misKept monces morder mordered mtext mline mwritten mnode) mwX11_isSlide kw1469 [0, 1] [] rfl rfl rfl rfl (by decide) 0 rfl rfl rfl rfl hl.1 rfl (Nat.le_of_ble_eq_true rfl) ⟨(Nat.le_of_ble_eq_true rfl), (Nat.le_of_ble_eq_true rfl)⟩ ⟨(Nat.le_of_ble_eq_true rfl), (Nat.le_of_ble_eq_true rfl)⟩ dX11_slide_7 (fun r1 u9 H locs hp9 hw => ?_)
  obtain ⟨rfl, rfl⟩ := hp9
  have hw : Wd G s A [(qm, .inr (10, [.int 0, .ref mtape, .int 0, .int 0, .int 0, .int 0, .int 0, .int 0, .int 0, .int 0, .int 0, .int 0, .long 0, .int 0, .ref mnow, .ref mread, .ref mkept, .ref msnaps, .ref maside, .ref mname, .ref mreadName, .ref mkeptName, .ref misKept, .ref monces, .int 0, .ref morder, .ref mordered, .int 0, .int 0, .int 0, .int (-1), .int (-1), .ref mtext, .int 0, .int 0, .ref mline, .ref mwritten, .int 0, .int 0, .ref mnode, .int 0, .int 0, .int 0, .int 0])), (mnow, eI G 339 nw0)] H _ := hw
  refine lv_if_ne (tgt := 18) C.1 C.2.1 dX11_slide_10 (by decide) (fun h9 => absurd (by decide) h9) (fun _ => ?_)
  refine lv_aload_n C.1 C.2.1 dX11_slide_13 rfl (lv_at hl 0 rfl) ?_
  refine x_calliV (As := []) (rest := []) (wr := [(mnow, eI G 339 nw0)]) C hw (c_X11_refuse qm mtape mnow mread mkept msnaps maside mname mreadName mkeptName misKept monces morder mordered mtext mline mwritten mnode) mwX11_refuse kw1473 [0] [1] rfl rfl rfl rfl (by decide) 0 rfl rfl rfl rfl hl.1 rfl (Nat.le_of_ble_eq_true rfl) ⟨(Nat.le_of_ble_eq_true rfl), (Nat.le_of_ble_eq_true rfl)⟩ ⟨(Nat.le_of_ble_eq_true rfl), (Nat.le_of_ble_eq_true rfl)⟩ dX11_slide_14 (fun r2 u9 H locs hp9 hw => ?_)
  obtain ⟨rfl, rfl⟩ := hp9
  have hw : Wd G s A [(mnow, eI G 339 nw0), (qm, .inr (10, [.int 1, .ref mtape, .int 0, .int 0, .int 0, .int 0, .int 0, .int 0, .int 0, .int 0, .int 0, .int 0, .long 0, .int 0, .ref mnow, .ref mread, .ref mkept, .ref msnaps, .ref maside, .ref mname, .ref mreadName, .ref mkeptName, .ref misKept, .ref monces, .int 0, .ref morder, .ref mordered, .int 0, .int 0, .int 0, .int (-1), .int (-1), .ref mtext, .int 0, .int 0, .ref mline, .ref mwritten, .int 0, .int 0, .ref mnode, .int 0, .int 0, .int 0, .int 0]))] H _ := hw
  have hw := hw.sub (w' := [(qm, .inr (10, [.int 1, .ref mtape, .int 0, .int 0, .int 0, .int 0, .int 0, .int 0, .int 0, .int 0, .int 0, .int 0, .long 0, .int 0, .ref mnow, .ref mread, .ref mkept, .ref msnaps, .ref maside, .ref mname, .ref mreadName, .ref mkeptName, .ref misKept, .ref monces, .int 0, .ref morder, .ref mordered, .int 0, .int 0, .int 0, .int (-1), .int (-1), .ref mtext, .int 0, .int 0, .ref mline, .ref mwritten, .int 0, .int 0, .ref mnode, .int 0, .int 0, .int 0, .int 0]))]) [1] rfl rfl
  exact x_reti B hw ⟨rfl, rfl⟩ (Nat.le_of_ble_eq_true rfl) (Nat.le_of_ble_eq_true rfl) dX11_slide_17
theorem dX11_hearer_0 : decode cX11_hearer 0 = .ok (.aload_n 0, 1) := by decide +kernel
theorem dX11_hearer_1 : decode cX11_hearer 1 = .ok (.iconst 0, 1) := by decide +kernel
theorem dX11_hearer_2 : decode cX11_hearer 2 = .ok (.putfield 1, 3) := by decide +kernel
theorem dX11_hearer_5 : decode cX11_hearer 5 = .ok (.aload_n 0, 1) := by decide +kernel
theorem dX11_hearer_6 : decode cX11_hearer 6 = .ok (.iload_n 1, 1) := by decide +kernel
theorem dX11_hearer_7 : decode cX11_hearer 7 = .ok (.invokevirtual 258, 3) := by decide +kernel
theorem mwX11_isHearer : MwV yX11_isHearer cX11_isHearer 2 (some .boolean) 1 := ⟨⟨kw1508, kw15, by decide +kernel⟩, kw1507, kS74⟩
theorem dX11_hearer_10 : decode cX11_hearer 10 = .ok (.ifCond .ne 8, 3) := by decide +kernel
theorem dX11_hearer_13 : decode cX11_hearer 13 = .ok (.aload_n 0, 1) := by decide +kernel
theorem dX11_hearer_14 : decode cX11_hearer 14 = .ok (.invokevirtual 240, 3) := by decide +kernel
theorem dX11_hearer_17 : decode cX11_hearer 17 = .ok (.ireturn, 1) := by decide +kernel
set_option maxHeartbeats 4000000 in
set_option maxRecDepth 100000 in
theorem c_X11_hearer {l : Launch} {G : Gc} (qm : Nat) (a1 : Int32) (a2 : Int32) (mtape : Nat) (mnow : Nat) (mread : Nat) (mkept : Nat) (msnaps : Nat) (maside : Nat) (mname : Nat) (mreadName : Nat) (mkeptName : Nat) (misKept : Nat) (monces : Nat) (morder : Nat) (mordered : Nat) (mtext : Nat) (mline : Nat) (mwritten : Nat) (mnode : Nat)  : Ci l yX11_hearer cX11_hearer 3 (some .int) 2 0 0 G [.ref qm, .int a1, .int a2] [(qm, .inr (10, [.int 0, .ref mtape, .int 0, .int 0, .int 0, .int 0, .int 0, .int 0, .int 0, .int 0, .int 0, .int 0, .long 0, .int 0, .ref mnow, .ref mread, .ref mkept, .ref msnaps, .ref maside, .ref mname, .ref mreadName, .ref mkeptName, .ref misKept, .ref monces, .int 0, .ref morder, .ref mordered, .int 0, .int 0, .int 0, .int (-1), .int (-1), .ref mtext, .int 0, .int 0, .ref mline, .ref mwritten, .int 0, .int 0, .ref mnode, .int 0, .int 0, .int 0, .int 0])), (mnow, eI G 339 nw0)] (fun (r9 : Int32) (u9 : va_W) => r9 = 0 ∧ u9 = [(qm, .inr (10, [.int 1, .ref mtape, .int 0, .int 0, .int 0, .int 0, .int 0, .int 0, .int 0, .int 0, .int 0, .int 0, .long 0, .int 0, .ref mnow, .ref mread, .ref mkept, .ref msnaps, .ref maside, .ref mname, .ref mreadName, .ref mkeptName, .ref misKept, .ref monces, .int 0, .ref morder, .ref mordered, .int 0, .int 0, .int 0, .int (-1), .int (-1), .ref mtext, .int 0, .int 0, .ref mline, .ref mwritten, .int 0, .int 0, .ref mnode, .int 0, .int 0, .int 0, .int 0]))]) := by
  refine Ci.of (by decide) (Nat.le_of_ble_eq_true rfl) ?_
  intro p e s m below meth c ls A B hw hl
  have C : CallFix p m c cX11_hearer 3 s _ gw "LanternStateModel" := B.1
  have hl : lv_has ls 3 [(0, .ref qm), (1, .int a1), (2, .int a2)] := hl
  refine lv_aload_n C.1 C.2.1 dX11_hearer_0 rfl (lv_at hl 0 rfl) ?_
  refine lv_iconst (v := 0) C.1 C.2.1 dX11_hearer_1 (by decide) ?_
  refine x_put (w' := [(qm, .inr (10, [.int 0, .ref mtape, .int 0, .int 0, .int 0, .int 0, .int 0, .int 0, .int 0, .int 0, .int 0, .int 0, .long 0, .int 0, .ref mnow, .ref mread, .ref mkept, .ref msnaps, .ref maside, .ref mname, .ref mreadName, .ref mkeptName, .ref misKept, .ref monces, .int 0, .ref morder, .ref mordered, .int 0, .int 0, .int 0, .int (-1), .int (-1), .ref mtext, .int 0, .int 0, .ref mline, .ref mwritten, .int 0, .int 0, .ref mnode, .int 0, .int 0, .int 0, .int 0])), (mnow, eI G 339 nw0)]) C hw iwX11 tyX11_ok nmX11 10 rfl 0 rfl 0 (by decide) kw1197 rfl rfl rfl (Nat.le_of_ble_eq_true rfl) rfl dX11_hearer_2 (fun H locs hw => ?_)
  refine lv_aload_n C.1 C.2.1 dX11_hearer_5 rfl (lv_at hl 0 rfl) ?_
  refine lv_iload_n C.1 C.2.1 dX11_hearer_6 rfl (lv_at hl 1 rfl) ?_
  refine x_calliV (As := [.int a1]) (rest := []) (wr := []) C hw (c_X11_isHearer qm a1 mtape mnow mread mkept msnaps maside mname mreadName mkeptName misKept monces morder mordered mtext mline mwritten mnode) mwX11_isHearer kw1505 [0, 1] [] rfl rfl rfl rfl (by decide) 0 rfl rfl rfl rfl hl.1 rfl (Nat.le_of_ble_eq_true rfl) ⟨(Nat.le_of_ble_eq_true rfl), (Nat.le_of_ble_eq_true rfl)⟩ ⟨(Nat.le_of_ble_eq_true rfl), (Nat.le_of_ble_eq_true rfl)⟩ dX11_hearer_7 (fun r1 u9 H locs hp9 hw => ?_)
  obtain ⟨rfl, rfl⟩ := hp9
  have hw : Wd G s A [(qm, .inr (10, [.int 0, .ref mtape, .int 0, .int 0, .int 0, .int 0, .int 0, .int 0, .int 0, .int 0, .int 0, .int 0, .long 0, .int 0, .ref mnow, .ref mread, .ref mkept, .ref msnaps, .ref maside, .ref mname, .ref mreadName, .ref mkeptName, .ref misKept, .ref monces, .int 0, .ref morder, .ref mordered, .int 0, .int 0, .int 0, .int (-1), .int (-1), .ref mtext, .int 0, .int 0, .ref mline, .ref mwritten, .int 0, .int 0, .ref mnode, .int 0, .int 0, .int 0, .int 0])), (mnow, eI G 339 nw0)] H _ := hw
  refine lv_if_ne (tgt := 18) C.1 C.2.1 dX11_hearer_10 (by decide) (fun h9 => absurd (by decide) h9) (fun _ => ?_)
  refine lv_aload_n C.1 C.2.1 dX11_hearer_13 rfl (lv_at hl 0 rfl) ?_
  refine x_calliV (As := []) (rest := []) (wr := [(mnow, eI G 339 nw0)]) C hw (c_X11_refuse qm mtape mnow mread mkept msnaps maside mname mreadName mkeptName misKept monces morder mordered mtext mline mwritten mnode) mwX11_refuse kw1473 [0] [1] rfl rfl rfl rfl (by decide) 0 rfl rfl rfl rfl hl.1 rfl (Nat.le_of_ble_eq_true rfl) ⟨(Nat.le_of_ble_eq_true rfl), (Nat.le_of_ble_eq_true rfl)⟩ ⟨(Nat.le_of_ble_eq_true rfl), (Nat.le_of_ble_eq_true rfl)⟩ dX11_hearer_14 (fun r2 u9 H locs hp9 hw => ?_)
  obtain ⟨rfl, rfl⟩ := hp9
  have hw : Wd G s A [(mnow, eI G 339 nw0), (qm, .inr (10, [.int 1, .ref mtape, .int 0, .int 0, .int 0, .int 0, .int 0, .int 0, .int 0, .int 0, .int 0, .int 0, .long 0, .int 0, .ref mnow, .ref mread, .ref mkept, .ref msnaps, .ref maside, .ref mname, .ref mreadName, .ref mkeptName, .ref misKept, .ref monces, .int 0, .ref morder, .ref mordered, .int 0, .int 0, .int 0, .int (-1), .int (-1), .ref mtext, .int 0, .int 0, .ref mline, .ref mwritten, .int 0, .int 0, .ref mnode, .int 0, .int 0, .int 0, .int 0]))] H _ := hw
  have hw := hw.sub (w' := [(qm, .inr (10, [.int 1, .ref mtape, .int 0, .int 0, .int 0, .int 0, .int 0, .int 0, .int 0, .int 0, .int 0, .int 0, .long 0, .int 0, .ref mnow, .ref mread, .ref mkept, .ref msnaps, .ref maside, .ref mname, .ref mreadName, .ref mkeptName, .ref misKept, .ref monces, .int 0, .ref morder, .ref mordered, .int 0, .int 0, .int 0, .int (-1), .int (-1), .ref mtext, .int 0, .int 0, .ref mline, .ref mwritten, .int 0, .int 0, .ref mnode, .int 0, .int 0, .int 0, .int 0]))]) [1] rfl rfl
  exact x_reti B hw ⟨rfl, rfl⟩ (Nat.le_of_ble_eq_true rfl) (Nat.le_of_ble_eq_true rfl) dX11_hearer_17
theorem dX11_row_0 : decode cX11_row 0 = .ok (.aload_n 0, 1) := by decide +kernel
theorem dX11_row_1 : decode cX11_row 1 = .ok (.iconst 0, 1) := by decide +kernel
theorem dX11_row_2 : decode cX11_row 2 = .ok (.putfield 1, 3) := by decide +kernel
theorem dX11_row_5 : decode cX11_row 5 = .ok (.aload_n 0, 1) := by decide +kernel
theorem dX11_row_6 : decode cX11_row 6 = .ok (.iload_n 1, 1) := by decide +kernel
theorem dX11_row_7 : decode cX11_row 7 = .ok (.invokevirtual 237, 3) := by decide +kernel
theorem dX11_row_10 : decode cX11_row 10 = .ok (.ifCond .eq 31, 3) := by decide +kernel
theorem dX11_row_41 : decode cX11_row 41 = .ok (.iconst (-1), 1) := by decide +kernel
theorem dX11_row_42 : decode cX11_row 42 = .ok (.ireturn, 1) := by decide +kernel
set_option maxHeartbeats 4000000 in
set_option maxRecDepth 100000 in
theorem c_X11_row {l : Launch} {G : Gc} (qm : Nat) (a1 : Int32) (a2 : Int32) (a3 : Int32) (a4 : Int32) (mtape : Nat) (mnow : Nat) (mread : Nat) (mkept : Nat) (msnaps : Nat) (maside : Nat) (mname : Nat) (mreadName : Nat) (mkeptName : Nat) (misKept : Nat) (monces : Nat) (morder : Nat) (mordered : Nat) (mtext : Nat) (mline : Nat) (mwritten : Nat) (mnode : Nat)  : Ci l yX11_row cX11_row 5 (some .int) 2 0 0 G [.ref qm, .int a1, .int a2, .int a3, .int a4] [(qm, .inr (10, [.int 0, .ref mtape, .int 0, .int 0, .int 0, .int 0, .int 0, .int 0, .int 0, .int 0, .int 0, .int 0, .long 0, .int 0, .ref mnow, .ref mread, .ref mkept, .ref msnaps, .ref maside, .ref mname, .ref mreadName, .ref mkeptName, .ref misKept, .ref monces, .int 0, .ref morder, .ref mordered, .int 0, .int 0, .int 0, .int (-1), .int (-1), .ref mtext, .int 0, .int 0, .ref mline, .ref mwritten, .int 0, .int 0, .ref mnode, .int 0, .int 0, .int 0, .int 0])), (mnow, eI G 339 nw0)] (fun (r9 : Int32) (u9 : va_W) => r9 = (-1) ∧ u9 = []) := by
  refine Ci.of (by decide) (Nat.le_of_ble_eq_true rfl) ?_
  intro p e s m below meth c ls A B hw hl
  have C : CallFix p m c cX11_row 5 s _ gw "LanternStateModel" := B.1
  have hl : lv_has ls 5 [(0, .ref qm), (1, .int a1), (2, .int a2), (3, .int a3), (4, .int a4)] := hl
  refine lv_aload_n C.1 C.2.1 dX11_row_0 rfl (lv_at hl 0 rfl) ?_
  refine lv_iconst (v := 0) C.1 C.2.1 dX11_row_1 (by decide) ?_
  refine x_put (w' := [(qm, .inr (10, [.int 0, .ref mtape, .int 0, .int 0, .int 0, .int 0, .int 0, .int 0, .int 0, .int 0, .int 0, .int 0, .long 0, .int 0, .ref mnow, .ref mread, .ref mkept, .ref msnaps, .ref maside, .ref mname, .ref mreadName, .ref mkeptName, .ref misKept, .ref monces, .int 0, .ref morder, .ref mordered, .int 0, .int 0, .int 0, .int (-1), .int (-1), .ref mtext, .int 0, .int 0, .ref mline, .ref mwritten, .int 0, .int 0, .ref mnode, .int 0, .int 0, .int 0, .int 0])), (mnow, eI G 339 nw0)]) C hw iwX11 tyX11_ok nmX11 10 rfl 0 rfl 0 (by decide) kw1197 rfl rfl rfl (Nat.le_of_ble_eq_true rfl) rfl dX11_row_2 (fun H locs hw => ?_)
  refine lv_aload_n C.1 C.2.1 dX11_row_5 rfl (lv_at hl 0 rfl) ?_
  refine lv_iload_n C.1 C.2.1 dX11_row_6 rfl (lv_at hl 1 rfl) ?_
  refine x_calliV (As := [.int a1]) (rest := []) (wr := []) C hw (c_X11_isSlide qm a1 mtape mnow mread mkept msnaps maside mname mreadName mkeptName misKept monces morder mordered mtext mline mwritten mnode) mwX11_isSlide kw1469 [0, 1] [] rfl rfl rfl rfl (by decide) 0 rfl rfl rfl rfl hl.1 rfl (Nat.le_of_ble_eq_true rfl) ⟨(Nat.le_of_ble_eq_true rfl), (Nat.le_of_ble_eq_true rfl)⟩ ⟨(Nat.le_of_ble_eq_true rfl), (Nat.le_of_ble_eq_true rfl)⟩ dX11_row_7 (fun r1 u9 H locs hp9 hw => ?_)
  obtain ⟨rfl, rfl⟩ := hp9
  have hw : Wd G s A [(qm, .inr (10, [.int 0, .ref mtape, .int 0, .int 0, .int 0, .int 0, .int 0, .int 0, .int 0, .int 0, .int 0, .int 0, .long 0, .int 0, .ref mnow, .ref mread, .ref mkept, .ref msnaps, .ref maside, .ref mname, .ref mreadName, .ref mkeptName, .ref misKept, .ref monces, .int 0, .ref morder, .ref mordered, .int 0, .int 0, .int 0, .int (-1), .int (-1), .ref mtext, .int 0, .int 0, .ref mline, .ref mwritten, .int 0, .int 0, .ref mnode, .int 0, .int 0, .int 0, .int 0])), (mnow, eI G 339 nw0)] H _ := hw
  refine lv_if_eq (tgt := 41) C.1 C.2.1 dX11_row_10 (by decide) (fun _ => ?_) (fun h9 => absurd (by decide) h9)
  refine lv_iconst (v := (-1)) C.1 C.2.1 dX11_row_41 (by decide) ?_
  have hw := hw.sub (w' := []) [] rfl rfl
  exact x_reti B hw ⟨rfl, rfl⟩ (Nat.le_of_ble_eq_true rfl) (Nat.le_of_ble_eq_true rfl) dX11_row_42
theorem dX11_show_0 : decode cX11_show 0 = .ok (.aload_n 0, 1) := by decide +kernel
theorem dX11_show_1 : decode cX11_show 1 = .ok (.iconst 0, 1) := by decide +kernel
theorem dX11_show_2 : decode cX11_show 2 = .ok (.putfield 1, 3) := by decide +kernel
theorem dX11_show_5 : decode cX11_show 5 = .ok (.aload_n 0, 1) := by decide +kernel
theorem dX11_show_6 : decode cX11_show 6 = .ok (.iload_n 1, 1) := by decide +kernel
theorem dX11_show_7 : decode cX11_show 7 = .ok (.invokevirtual 237, 3) := by decide +kernel
theorem dX11_show_10 : decode cX11_show 10 = .ok (.ifCond .eq 12, 3) := by decide +kernel
theorem dX11_show_22 : decode cX11_show 22 = .ok (.iconst (-1), 1) := by decide +kernel
theorem dX11_show_23 : decode cX11_show 23 = .ok (.ireturn, 1) := by decide +kernel
set_option maxHeartbeats 4000000 in
set_option maxRecDepth 100000 in
theorem c_X11_show {l : Launch} {G : Gc} (qm : Nat) (a1 : Int32) (a2 : Int32) (mtape : Nat) (mnow : Nat) (mread : Nat) (mkept : Nat) (msnaps : Nat) (maside : Nat) (mname : Nat) (mreadName : Nat) (mkeptName : Nat) (misKept : Nat) (monces : Nat) (morder : Nat) (mordered : Nat) (mtext : Nat) (mline : Nat) (mwritten : Nat) (mnode : Nat)  : Ci l yX11_show cX11_show 4 (some .int) 2 0 0 G [.ref qm, .int a1, .int a2] [(qm, .inr (10, [.int 0, .ref mtape, .int 0, .int 0, .int 0, .int 0, .int 0, .int 0, .int 0, .int 0, .int 0, .int 0, .long 0, .int 0, .ref mnow, .ref mread, .ref mkept, .ref msnaps, .ref maside, .ref mname, .ref mreadName, .ref mkeptName, .ref misKept, .ref monces, .int 0, .ref morder, .ref mordered, .int 0, .int 0, .int 0, .int (-1), .int (-1), .ref mtext, .int 0, .int 0, .ref mline, .ref mwritten, .int 0, .int 0, .ref mnode, .int 0, .int 0, .int 0, .int 0])), (mnow, eI G 339 nw0)] (fun (r9 : Int32) (u9 : va_W) => r9 = (-1) ∧ u9 = []) := by
  refine Ci.of (by decide) (Nat.le_of_ble_eq_true rfl) ?_
  intro p e s m below meth c ls A B hw hl
  have C : CallFix p m c cX11_show 4 s _ gw "LanternStateModel" := B.1
  have hl : lv_has ls 4 [(0, .ref qm), (1, .int a1), (2, .int a2)] := hl
  refine lv_aload_n C.1 C.2.1 dX11_show_0 rfl (lv_at hl 0 rfl) ?_
  refine lv_iconst (v := 0) C.1 C.2.1 dX11_show_1 (by decide) ?_
  refine x_put (w' := [(qm, .inr (10, [.int 0, .ref mtape, .int 0, .int 0, .int 0, .int 0, .int 0, .int 0, .int 0, .int 0, .int 0, .int 0, .long 0, .int 0, .ref mnow, .ref mread, .ref mkept, .ref msnaps, .ref maside, .ref mname, .ref mreadName, .ref mkeptName, .ref misKept, .ref monces, .int 0, .ref morder, .ref mordered, .int 0, .int 0, .int 0, .int (-1), .int (-1), .ref mtext, .int 0, .int 0, .ref mline, .ref mwritten, .int 0, .int 0, .ref mnode, .int 0, .int 0, .int 0, .int 0])), (mnow, eI G 339 nw0)]) C hw iwX11 tyX11_ok nmX11 10 rfl 0 rfl 0 (by decide) kw1197 rfl rfl rfl (Nat.le_of_ble_eq_true rfl) rfl dX11_show_2 (fun H locs hw => ?_)
  refine lv_aload_n C.1 C.2.1 dX11_show_5 rfl (lv_at hl 0 rfl) ?_
  refine lv_iload_n C.1 C.2.1 dX11_show_6 rfl (lv_at hl 1 rfl) ?_
  refine x_calliV (As := [.int a1]) (rest := []) (wr := []) C hw (c_X11_isSlide qm a1 mtape mnow mread mkept msnaps maside mname mreadName mkeptName misKept monces morder mordered mtext mline mwritten mnode) mwX11_isSlide kw1469 [0, 1] [] rfl rfl rfl rfl (by decide) 0 rfl rfl rfl rfl hl.1 rfl (Nat.le_of_ble_eq_true rfl) ⟨(Nat.le_of_ble_eq_true rfl), (Nat.le_of_ble_eq_true rfl)⟩ ⟨(Nat.le_of_ble_eq_true rfl), (Nat.le_of_ble_eq_true rfl)⟩ dX11_show_7 (fun r1 u9 H locs hp9 hw => ?_)
  obtain ⟨rfl, rfl⟩ := hp9
  have hw : Wd G s A [(qm, .inr (10, [.int 0, .ref mtape, .int 0, .int 0, .int 0, .int 0, .int 0, .int 0, .int 0, .int 0, .int 0, .int 0, .long 0, .int 0, .ref mnow, .ref mread, .ref mkept, .ref msnaps, .ref maside, .ref mname, .ref mreadName, .ref mkeptName, .ref misKept, .ref monces, .int 0, .ref morder, .ref mordered, .int 0, .int 0, .int 0, .int (-1), .int (-1), .ref mtext, .int 0, .int 0, .ref mline, .ref mwritten, .int 0, .int 0, .ref mnode, .int 0, .int 0, .int 0, .int 0])), (mnow, eI G 339 nw0)] H _ := hw
  refine lv_if_eq (tgt := 22) C.1 C.2.1 dX11_show_10 (by decide) (fun _ => ?_) (fun h9 => absurd (by decide) h9)
  refine lv_iconst (v := (-1)) C.1 C.2.1 dX11_show_22 (by decide) ?_
  have hw := hw.sub (w' := []) [] rfl rfl
  exact x_reti B hw ⟨rfl, rfl⟩ (Nat.le_of_ble_eq_true rfl) (Nat.le_of_ble_eq_true rfl) dX11_show_23
theorem dX11_over_0 : decode cX11_over 0 = .ok (.aload_n 0, 1) := by decide +kernel
theorem dX11_over_1 : decode cX11_over 1 = .ok (.iconst 0, 1) := by decide +kernel
theorem dX11_over_2 : decode cX11_over 2 = .ok (.putfield 1, 3) := by decide +kernel
theorem dX11_over_5 : decode cX11_over 5 = .ok (.aload_n 0, 1) := by decide +kernel
theorem dX11_over_6 : decode cX11_over 6 = .ok (.iload_n 1, 1) := by decide +kernel
theorem dX11_over_7 : decode cX11_over 7 = .ok (.invokevirtual 237, 3) := by decide +kernel
theorem dX11_over_10 : decode cX11_over 10 = .ok (.ifCond .eq 11, 3) := by decide +kernel
theorem dX11_over_21 : decode cX11_over 21 = .ok (.iconst (-1), 1) := by decide +kernel
theorem dX11_over_22 : decode cX11_over 22 = .ok (.ireturn, 1) := by decide +kernel
set_option maxHeartbeats 4000000 in
set_option maxRecDepth 100000 in
theorem c_X11_over {l : Launch} {G : Gc} (qm : Nat) (a1 : Int32) (a2 : Int32) (mtape : Nat) (mnow : Nat) (mread : Nat) (mkept : Nat) (msnaps : Nat) (maside : Nat) (mname : Nat) (mreadName : Nat) (mkeptName : Nat) (misKept : Nat) (monces : Nat) (morder : Nat) (mordered : Nat) (mtext : Nat) (mline : Nat) (mwritten : Nat) (mnode : Nat)  : Ci l yX11_over cX11_over 4 (some .int) 2 0 0 G [.ref qm, .int a1, .int a2] [(qm, .inr (10, [.int 0, .ref mtape, .int 0, .int 0, .int 0, .int 0, .int 0, .int 0, .int 0, .int 0, .int 0, .int 0, .long 0, .int 0, .ref mnow, .ref mread, .ref mkept, .ref msnaps, .ref maside, .ref mname, .ref mreadName, .ref mkeptName, .ref misKept, .ref monces, .int 0, .ref morder, .ref mordered, .int 0, .int 0, .int 0, .int (-1), .int (-1), .ref mtext, .int 0, .int 0, .ref mline, .ref mwritten, .int 0, .int 0, .ref mnode, .int 0, .int 0, .int 0, .int 0])), (mnow, eI G 339 nw0)] (fun (r9 : Int32) (u9 : va_W) => r9 = (-1) ∧ u9 = []) := by
  refine Ci.of (by decide) (Nat.le_of_ble_eq_true rfl) ?_
  intro p e s m below meth c ls A B hw hl
  have C : CallFix p m c cX11_over 4 s _ gw "LanternStateModel" := B.1
  have hl : lv_has ls 4 [(0, .ref qm), (1, .int a1), (2, .int a2)] := hl
  refine lv_aload_n C.1 C.2.1 dX11_over_0 rfl (lv_at hl 0 rfl) ?_
  refine lv_iconst (v := 0) C.1 C.2.1 dX11_over_1 (by decide) ?_
  refine x_put (w' := [(qm, .inr (10, [.int 0, .ref mtape, .int 0, .int 0, .int 0, .int 0, .int 0, .int 0, .int 0, .int 0, .int 0, .int 0, .long 0, .int 0, .ref mnow, .ref mread, .ref mkept, .ref msnaps, .ref maside, .ref mname, .ref mreadName, .ref mkeptName, .ref misKept, .ref monces, .int 0, .ref morder, .ref mordered, .int 0, .int 0, .int 0, .int (-1), .int (-1), .ref mtext, .int 0, .int 0, .ref mline, .ref mwritten, .int 0, .int 0, .ref mnode, .int 0, .int 0, .int 0, .int 0])), (mnow, eI G 339 nw0)]) C hw iwX11 tyX11_ok nmX11 10 rfl 0 rfl 0 (by decide) kw1197 rfl rfl rfl (Nat.le_of_ble_eq_true rfl) rfl dX11_over_2 (fun H locs hw => ?_)
  refine lv_aload_n C.1 C.2.1 dX11_over_5 rfl (lv_at hl 0 rfl) ?_
  refine lv_iload_n C.1 C.2.1 dX11_over_6 rfl (lv_at hl 1 rfl) ?_
  refine x_calliV (As := [.int a1]) (rest := []) (wr := []) C hw (c_X11_isSlide qm a1 mtape mnow mread mkept msnaps maside mname mreadName mkeptName misKept monces morder mordered mtext mline mwritten mnode) mwX11_isSlide kw1469 [0, 1] [] rfl rfl rfl rfl (by decide) 0 rfl rfl rfl rfl hl.1 rfl (Nat.le_of_ble_eq_true rfl) ⟨(Nat.le_of_ble_eq_true rfl), (Nat.le_of_ble_eq_true rfl)⟩ ⟨(Nat.le_of_ble_eq_true rfl), (Nat.le_of_ble_eq_true rfl)⟩ dX11_over_7 (fun r1 u9 H locs hp9 hw => ?_)
  obtain ⟨rfl, rfl⟩ := hp9
  have hw : Wd G s A [(qm, .inr (10, [.int 0, .ref mtape, .int 0, .int 0, .int 0, .int 0, .int 0, .int 0, .int 0, .int 0, .int 0, .int 0, .long 0, .int 0, .ref mnow, .ref mread, .ref mkept, .ref msnaps, .ref maside, .ref mname, .ref mreadName, .ref mkeptName, .ref misKept, .ref monces, .int 0, .ref morder, .ref mordered, .int 0, .int 0, .int 0, .int (-1), .int (-1), .ref mtext, .int 0, .int 0, .ref mline, .ref mwritten, .int 0, .int 0, .ref mnode, .int 0, .int 0, .int 0, .int 0])), (mnow, eI G 339 nw0)] H _ := hw
  refine lv_if_eq (tgt := 21) C.1 C.2.1 dX11_over_10 (by decide) (fun _ => ?_) (fun h9 => absurd (by decide) h9)
  refine lv_iconst (v := (-1)) C.1 C.2.1 dX11_over_21 (by decide) ?_
  have hw := hw.sub (w' := []) [] rfl rfl
  exact x_reti B hw ⟨rfl, rfl⟩ (Nat.le_of_ble_eq_true rfl) (Nat.le_of_ble_eq_true rfl) dX11_over_22
theorem dX11_scratch_0 : decode cX11_scratch 0 = .ok (.aload_n 0, 1) := by decide +kernel
theorem dX11_scratch_1 : decode cX11_scratch 1 = .ok (.iconst 0, 1) := by decide +kernel
theorem dX11_scratch_2 : decode cX11_scratch 2 = .ok (.putfield 1, 3) := by decide +kernel
theorem dX11_scratch_5 : decode cX11_scratch 5 = .ok (.aload_n 0, 1) := by decide +kernel
theorem dX11_scratch_6 : decode cX11_scratch 6 = .ok (.iload_n 1, 1) := by decide +kernel
theorem dX11_scratch_7 : decode cX11_scratch 7 = .ok (.invokevirtual 237, 3) := by decide +kernel
theorem dX11_scratch_10 : decode cX11_scratch 10 = .ok (.ifCond .eq 35, 3) := by decide +kernel
theorem dX11_scratch_45 : decode cX11_scratch 45 = .ok (.iconst (-1), 1) := by decide +kernel
theorem dX11_scratch_46 : decode cX11_scratch 46 = .ok (.ireturn, 1) := by decide +kernel
set_option maxHeartbeats 4000000 in
set_option maxRecDepth 100000 in
theorem c_X11_scratch {l : Launch} {G : Gc} (qm : Nat) (a1 : Int32) (a2 : Int32) (a3 : Int32) (mtape : Nat) (mnow : Nat) (mread : Nat) (mkept : Nat) (msnaps : Nat) (maside : Nat) (mname : Nat) (mreadName : Nat) (mkeptName : Nat) (misKept : Nat) (monces : Nat) (morder : Nat) (mordered : Nat) (mtext : Nat) (mline : Nat) (mwritten : Nat) (mnode : Nat)  : Ci l yX11_scratch cX11_scratch 4 (some .int) 2 0 0 G [.ref qm, .int a1, .int a2, .int a3] [(qm, .inr (10, [.int 0, .ref mtape, .int 0, .int 0, .int 0, .int 0, .int 0, .int 0, .int 0, .int 0, .int 0, .int 0, .long 0, .int 0, .ref mnow, .ref mread, .ref mkept, .ref msnaps, .ref maside, .ref mname, .ref mreadName, .ref mkeptName, .ref misKept, .ref monces, .int 0, .ref morder, .ref mordered, .int 0, .int 0, .int 0, .int (-1), .int (-1), .ref mtext, .int 0, .int 0, .ref mline, .ref mwritten, .int 0, .int 0, .ref mnode, .int 0, .int 0, .int 0, .int 0])), (mnow, eI G 339 nw0)] (fun (r9 : Int32) (u9 : va_W) => r9 = (-1) ∧ u9 = []) := by
  refine Ci.of (by decide) (Nat.le_of_ble_eq_true rfl) ?_
  intro p e s m below meth c ls A B hw hl
  have C : CallFix p m c cX11_scratch 4 s _ gw "LanternStateModel" := B.1
  have hl : lv_has ls 4 [(0, .ref qm), (1, .int a1), (2, .int a2), (3, .int a3)] := hl
  refine lv_aload_n C.1 C.2.1 dX11_scratch_0 rfl (lv_at hl 0 rfl) ?_
  refine lv_iconst (v := 0) C.1 C.2.1 dX11_scratch_1 (by decide) ?_
  refine x_put (w' := [(qm, .inr (10, [.int 0, .ref mtape, .int 0, .int 0, .int 0, .int 0, .int 0, .int 0, .int 0, .int 0, .int 0, .int 0, .long 0, .int 0, .ref mnow, .ref mread, .ref mkept, .ref msnaps, .ref maside, .ref mname, .ref mreadName, .ref mkeptName, .ref misKept, .ref monces, .int 0, .ref morder, .ref mordered, .int 0, .int 0, .int 0, .int (-1), .int (-1), .ref mtext, .int 0, .int 0, .ref mline, .ref mwritten, .int 0, .int 0, .ref mnode, .int 0, .int 0, .int 0, .int 0])), (mnow, eI G 339 nw0)]) C hw iwX11 tyX11_ok nmX11 10 rfl 0 rfl 0 (by decide) kw1197 rfl rfl rfl (Nat.le_of_ble_eq_true rfl) rfl dX11_scratch_2 (fun H locs hw => ?_)
  refine lv_aload_n C.1 C.2.1 dX11_scratch_5 rfl (lv_at hl 0 rfl) ?_
  refine lv_iload_n C.1 C.2.1 dX11_scratch_6 rfl (lv_at hl 1 rfl) ?_
  refine x_calliV (As := [.int a1]) (rest := []) (wr := []) C hw (c_X11_isSlide qm a1 mtape mnow mread mkept msnaps maside mname mreadName mkeptName misKept monces morder mordered mtext mline mwritten mnode) mwX11_isSlide kw1469 [0, 1] [] rfl rfl rfl rfl (by decide) 0 rfl rfl rfl rfl hl.1 rfl (Nat.le_of_ble_eq_true rfl) ⟨(Nat.le_of_ble_eq_true rfl), (Nat.le_of_ble_eq_true rfl)⟩ ⟨(Nat.le_of_ble_eq_true rfl), (Nat.le_of_ble_eq_true rfl)⟩ dX11_scratch_7 (fun r1 u9 H locs hp9 hw => ?_)
  obtain ⟨rfl, rfl⟩ := hp9
  have hw : Wd G s A [(qm, .inr (10, [.int 0, .ref mtape, .int 0, .int 0, .int 0, .int 0, .int 0, .int 0, .int 0, .int 0, .int 0, .int 0, .long 0, .int 0, .ref mnow, .ref mread, .ref mkept, .ref msnaps, .ref maside, .ref mname, .ref mreadName, .ref mkeptName, .ref misKept, .ref monces, .int 0, .ref morder, .ref mordered, .int 0, .int 0, .int 0, .int (-1), .int (-1), .ref mtext, .int 0, .int 0, .ref mline, .ref mwritten, .int 0, .int 0, .ref mnode, .int 0, .int 0, .int 0, .int 0])), (mnow, eI G 339 nw0)] H _ := hw
  refine lv_if_eq (tgt := 45) C.1 C.2.1 dX11_scratch_10 (by decide) (fun _ => ?_) (fun h9 => absurd (by decide) h9)
  refine lv_iconst (v := (-1)) C.1 C.2.1 dX11_scratch_45 (by decide) ?_
  have hw := hw.sub (w' := []) [] rfl rfl
  exact x_reti B hw ⟨rfl, rfl⟩ (Nat.le_of_ble_eq_true rfl) (Nat.le_of_ble_eq_true rfl) dX11_scratch_46
theorem dX11_sighs_0 : decode cX11_sighs 0 = .ok (.aload_n 0, 1) := by decide +kernel
theorem dX11_sighs_1 : decode cX11_sighs 1 = .ok (.iconst 0, 1) := by decide +kernel
theorem dX11_sighs_2 : decode cX11_sighs 2 = .ok (.putfield 1, 3) := by decide +kernel
theorem dX11_sighs_5 : decode cX11_sighs 5 = .ok (.aload_n 0, 1) := by decide +kernel
theorem dX11_sighs_6 : decode cX11_sighs 6 = .ok (.iload_n 1, 1) := by decide +kernel
theorem dX11_sighs_7 : decode cX11_sighs 7 = .ok (.invokevirtual 237, 3) := by decide +kernel
theorem dX11_sighs_10 : decode cX11_sighs 10 = .ok (.ifCond .eq 21, 3) := by decide +kernel
theorem dX11_sighs_31 : decode cX11_sighs 31 = .ok (.iconst (-1), 1) := by decide +kernel
theorem dX11_sighs_32 : decode cX11_sighs 32 = .ok (.ireturn, 1) := by decide +kernel
set_option maxHeartbeats 4000000 in
set_option maxRecDepth 100000 in
theorem c_X11_sighs {l : Launch} {G : Gc} (qm : Nat) (a1 : Int32) (a2 : Int32) (mtape : Nat) (mnow : Nat) (mread : Nat) (mkept : Nat) (msnaps : Nat) (maside : Nat) (mname : Nat) (mreadName : Nat) (mkeptName : Nat) (misKept : Nat) (monces : Nat) (morder : Nat) (mordered : Nat) (mtext : Nat) (mline : Nat) (mwritten : Nat) (mnode : Nat)  : Ci l yX11_sighs cX11_sighs 3 (some .int) 2 0 0 G [.ref qm, .int a1, .int a2] [(qm, .inr (10, [.int 0, .ref mtape, .int 0, .int 0, .int 0, .int 0, .int 0, .int 0, .int 0, .int 0, .int 0, .int 0, .long 0, .int 0, .ref mnow, .ref mread, .ref mkept, .ref msnaps, .ref maside, .ref mname, .ref mreadName, .ref mkeptName, .ref misKept, .ref monces, .int 0, .ref morder, .ref mordered, .int 0, .int 0, .int 0, .int (-1), .int (-1), .ref mtext, .int 0, .int 0, .ref mline, .ref mwritten, .int 0, .int 0, .ref mnode, .int 0, .int 0, .int 0, .int 0])), (mnow, eI G 339 nw0)] (fun (r9 : Int32) (u9 : va_W) => r9 = (-1) ∧ u9 = []) := by
  refine Ci.of (by decide) (Nat.le_of_ble_eq_true rfl) ?_
  intro p e s m below meth c ls A B hw hl
  have C : CallFix p m c cX11_sighs 3 s _ gw "LanternStateModel" := B.1
  have hl : lv_has ls 3 [(0, .ref qm), (1, .int a1), (2, .int a2)] := hl
  refine lv_aload_n C.1 C.2.1 dX11_sighs_0 rfl (lv_at hl 0 rfl) ?_
  refine lv_iconst (v := 0) C.1 C.2.1 dX11_sighs_1 (by decide) ?_
  refine x_put (w' := [(qm, .inr (10, [.int 0, .ref mtape, .int 0, .int 0, .int 0, .int 0, .int 0, .int 0, .int 0, .int 0, .int 0, .int 0, .long 0, .int 0, .ref mnow, .ref mread, .ref mkept, .ref msnaps, .ref maside, .ref mname, .ref mreadName, .ref mkeptName, .ref misKept, .ref monces, .int 0, .ref morder, .ref mordered, .int 0, .int 0, .int 0, .int (-1), .int (-1), .ref mtext, .int 0, .int 0, .ref mline, .ref mwritten, .int 0, .int 0, .ref mnode, .int 0, .int 0, .int 0, .int 0])), (mnow, eI G 339 nw0)]) C hw iwX11 tyX11_ok nmX11 10 rfl 0 rfl 0 (by decide) kw1197 rfl rfl rfl (Nat.le_of_ble_eq_true rfl) rfl dX11_sighs_2 (fun H locs hw => ?_)
  refine lv_aload_n C.1 C.2.1 dX11_sighs_5 rfl (lv_at hl 0 rfl) ?_
  refine lv_iload_n C.1 C.2.1 dX11_sighs_6 rfl (lv_at hl 1 rfl) ?_
  refine x_calliV (As := [.int a1]) (rest := []) (wr := []) C hw (c_X11_isSlide qm a1 mtape mnow mread mkept msnaps maside mname mreadName mkeptName misKept monces morder mordered mtext mline mwritten mnode) mwX11_isSlide kw1469 [0, 1] [] rfl rfl rfl rfl (by decide) 0 rfl rfl rfl rfl hl.1 rfl (Nat.le_of_ble_eq_true rfl) ⟨(Nat.le_of_ble_eq_true rfl), (Nat.le_of_ble_eq_true rfl)⟩ ⟨(Nat.le_of_ble_eq_true rfl), (Nat.le_of_ble_eq_true rfl)⟩ dX11_sighs_7 (fun r1 u9 H locs hp9 hw => ?_)
  obtain ⟨rfl, rfl⟩ := hp9
  have hw : Wd G s A [(qm, .inr (10, [.int 0, .ref mtape, .int 0, .int 0, .int 0, .int 0, .int 0, .int 0, .int 0, .int 0, .int 0, .int 0, .long 0, .int 0, .ref mnow, .ref mread, .ref mkept, .ref msnaps, .ref maside, .ref mname, .ref mreadName, .ref mkeptName, .ref misKept, .ref monces, .int 0, .ref morder, .ref mordered, .int 0, .int 0, .int 0, .int (-1), .int (-1), .ref mtext, .int 0, .int 0, .ref mline, .ref mwritten, .int 0, .int 0, .ref mnode, .int 0, .int 0, .int 0, .int 0])), (mnow, eI G 339 nw0)] H _ := hw
  refine lv_if_eq (tgt := 31) C.1 C.2.1 dX11_sighs_10 (by decide) (fun _ => ?_) (fun h9 => absurd (by decide) h9)
  refine lv_iconst (v := (-1)) C.1 C.2.1 dX11_sighs_31 (by decide) ?_
  have hw := hw.sub (w' := []) [] rfl rfl
  exact x_reti B hw ⟨rfl, rfl⟩ (Nat.le_of_ble_eq_true rfl) (Nat.le_of_ble_eq_true rfl) dX11_sighs_32
theorem dX11_best_0 : decode cX11_best 0 = .ok (.aload_n 0, 1) := by decide +kernel
theorem dX11_best_1 : decode cX11_best 1 = .ok (.iconst 0, 1) := by decide +kernel
theorem dX11_best_2 : decode cX11_best 2 = .ok (.putfield 1, 3) := by decide +kernel
theorem dX11_best_5 : decode cX11_best 5 = .ok (.aload_n 0, 1) := by decide +kernel
theorem dX11_best_6 : decode cX11_best 6 = .ok (.iload_n 1, 1) := by decide +kernel
theorem dX11_best_7 : decode cX11_best 7 = .ok (.invokevirtual 237, 3) := by decide +kernel
theorem dX11_best_10 : decode cX11_best 10 = .ok (.ifCond .ne 5, 3) := by decide +kernel
theorem dX11_best_13 : decode cX11_best 13 = .ok (.iconst (-1), 1) := by decide +kernel
theorem dX11_best_14 : decode cX11_best 14 = .ok (.ireturn, 1) := by decide +kernel
set_option maxHeartbeats 4000000 in
set_option maxRecDepth 100000 in
theorem c_X11_best {l : Launch} {G : Gc} (qm : Nat) (a1 : Int32) (mtape : Nat) (mnow : Nat) (mread : Nat) (mkept : Nat) (msnaps : Nat) (maside : Nat) (mname : Nat) (mreadName : Nat) (mkeptName : Nat) (misKept : Nat) (monces : Nat) (morder : Nat) (mordered : Nat) (mtext : Nat) (mline : Nat) (mwritten : Nat) (mnode : Nat)  : Ci l yX11_best cX11_best 4 (some .int) 2 0 0 G [.ref qm, .int a1] [(qm, .inr (10, [.int 0, .ref mtape, .int 0, .int 0, .int 0, .int 0, .int 0, .int 0, .int 0, .int 0, .int 0, .int 0, .long 0, .int 0, .ref mnow, .ref mread, .ref mkept, .ref msnaps, .ref maside, .ref mname, .ref mreadName, .ref mkeptName, .ref misKept, .ref monces, .int 0, .ref morder, .ref mordered, .int 0, .int 0, .int 0, .int (-1), .int (-1), .ref mtext, .int 0, .int 0, .ref mline, .ref mwritten, .int 0, .int 0, .ref mnode, .int 0, .int 0, .int 0, .int 0])), (mnow, eI G 339 nw0)] (fun (r9 : Int32) (u9 : va_W) => r9 = (-1) ∧ u9 = []) := by
  refine Ci.of (by decide) (Nat.le_of_ble_eq_true rfl) ?_
  intro p e s m below meth c ls A B hw hl
  have C : CallFix p m c cX11_best 4 s _ gw "LanternStateModel" := B.1
  have hl : lv_has ls 4 [(0, .ref qm), (1, .int a1)] := hl
  refine lv_aload_n C.1 C.2.1 dX11_best_0 rfl (lv_at hl 0 rfl) ?_
  refine lv_iconst (v := 0) C.1 C.2.1 dX11_best_1 (by decide) ?_
  refine x_put (w' := [(qm, .inr (10, [.int 0, .ref mtape, .int 0, .int 0, .int 0, .int 0, .int 0, .int 0, .int 0, .int 0, .int 0, .int 0, .long 0, .int 0, .ref mnow, .ref mread, .ref mkept, .ref msnaps, .ref maside, .ref mname, .ref mreadName, .ref mkeptName, .ref misKept, .ref monces, .int 0, .ref morder, .ref mordered, .int 0, .int 0, .int 0, .int (-1), .int (-1), .ref mtext, .int 0, .int 0, .ref mline, .ref mwritten, .int 0, .int 0, .ref mnode, .int 0, .int 0, .int 0, .int 0])), (mnow, eI G 339 nw0)]) C hw iwX11 tyX11_ok nmX11 10 rfl 0 rfl 0 (by decide) kw1197 rfl rfl rfl (Nat.le_of_ble_eq_true rfl) rfl dX11_best_2 (fun H locs hw => ?_)
  refine lv_aload_n C.1 C.2.1 dX11_best_5 rfl (lv_at hl 0 rfl) ?_
  refine lv_iload_n C.1 C.2.1 dX11_best_6 rfl (lv_at hl 1 rfl) ?_
  refine x_calliV (As := [.int a1]) (rest := []) (wr := []) C hw (c_X11_isSlide qm a1 mtape mnow mread mkept msnaps maside mname mreadName mkeptName misKept monces morder mordered mtext mline mwritten mnode) mwX11_isSlide kw1469 [0, 1] [] rfl rfl rfl rfl (by decide) 0 rfl rfl rfl rfl hl.1 rfl (Nat.le_of_ble_eq_true rfl) ⟨(Nat.le_of_ble_eq_true rfl), (Nat.le_of_ble_eq_true rfl)⟩ ⟨(Nat.le_of_ble_eq_true rfl), (Nat.le_of_ble_eq_true rfl)⟩ dX11_best_7 (fun r1 u9 H locs hp9 hw => ?_)
  obtain ⟨rfl, rfl⟩ := hp9
  have hw : Wd G s A [(qm, .inr (10, [.int 0, .ref mtape, .int 0, .int 0, .int 0, .int 0, .int 0, .int 0, .int 0, .int 0, .int 0, .int 0, .long 0, .int 0, .ref mnow, .ref mread, .ref mkept, .ref msnaps, .ref maside, .ref mname, .ref mreadName, .ref mkeptName, .ref misKept, .ref monces, .int 0, .ref morder, .ref mordered, .int 0, .int 0, .int 0, .int (-1), .int (-1), .ref mtext, .int 0, .int 0, .ref mline, .ref mwritten, .int 0, .int 0, .ref mnode, .int 0, .int 0, .int 0, .int 0])), (mnow, eI G 339 nw0)] H _ := hw
  refine lv_if_ne (tgt := 15) C.1 C.2.1 dX11_best_10 (by decide) (fun h9 => absurd (by decide) h9) (fun _ => ?_)
  refine lv_iconst (v := (-1)) C.1 C.2.1 dX11_best_13 (by decide) ?_
  have hw := hw.sub (w' := []) [] rfl rfl
  exact x_reti B hw ⟨rfl, rfl⟩ (Nat.le_of_ble_eq_true rfl) (Nat.le_of_ble_eq_true rfl) dX11_best_14
theorem dX11_moved_0 : decode cX11_moved 0 = .ok (.aload_n 0, 1) := by decide +kernel
theorem dX11_moved_1 : decode cX11_moved 1 = .ok (.iconst 0, 1) := by decide +kernel
theorem dX11_moved_2 : decode cX11_moved 2 = .ok (.putfield 1, 3) := by decide +kernel
theorem dX11_moved_5 : decode cX11_moved 5 = .ok (.aload_n 0, 1) := by decide +kernel
theorem dX11_moved_6 : decode cX11_moved 6 = .ok (.iload_n 1, 1) := by decide +kernel
theorem dX11_moved_7 : decode cX11_moved 7 = .ok (.invokevirtual 237, 3) := by decide +kernel
theorem dX11_moved_10 : decode cX11_moved 10 = .ok (.ifCond .eq 12, 3) := by decide +kernel
theorem dX11_moved_22 : decode cX11_moved 22 = .ok (.iconst (-1), 1) := by decide +kernel
theorem dX11_moved_23 : decode cX11_moved 23 = .ok (.ireturn, 1) := by decide +kernel
set_option maxHeartbeats 4000000 in
set_option maxRecDepth 100000 in
theorem c_X11_moved {l : Launch} {G : Gc} (qm : Nat) (a1 : Int32) (a2 : Int32) (mtape : Nat) (mnow : Nat) (mread : Nat) (mkept : Nat) (msnaps : Nat) (maside : Nat) (mname : Nat) (mreadName : Nat) (mkeptName : Nat) (misKept : Nat) (monces : Nat) (morder : Nat) (mordered : Nat) (mtext : Nat) (mline : Nat) (mwritten : Nat) (mnode : Nat)  : Ci l yX11_moved cX11_moved 6 (some .int) 2 0 0 G [.ref qm, .int a1, .int a2] [(qm, .inr (10, [.int 0, .ref mtape, .int 0, .int 0, .int 0, .int 0, .int 0, .int 0, .int 0, .int 0, .int 0, .int 0, .long 0, .int 0, .ref mnow, .ref mread, .ref mkept, .ref msnaps, .ref maside, .ref mname, .ref mreadName, .ref mkeptName, .ref misKept, .ref monces, .int 0, .ref morder, .ref mordered, .int 0, .int 0, .int 0, .int (-1), .int (-1), .ref mtext, .int 0, .int 0, .ref mline, .ref mwritten, .int 0, .int 0, .ref mnode, .int 0, .int 0, .int 0, .int 0])), (mnow, eI G 339 nw0)] (fun (r9 : Int32) (u9 : va_W) => r9 = (-1) ∧ u9 = []) := by
  refine Ci.of (by decide) (Nat.le_of_ble_eq_true rfl) ?_
  intro p e s m below meth c ls A B hw hl
  have C : CallFix p m c cX11_moved 6 s _ gw "LanternStateModel" := B.1
  have hl : lv_has ls 6 [(0, .ref qm), (1, .int a1), (2, .int a2)] := hl
  refine lv_aload_n C.1 C.2.1 dX11_moved_0 rfl (lv_at hl 0 rfl) ?_
  refine lv_iconst (v := 0) C.1 C.2.1 dX11_moved_1 (by decide) ?_
  refine x_put (w' := [(qm, .inr (10, [.int 0, .ref mtape, .int 0, .int 0, .int 0, .int 0, .int 0, .int 0, .int 0, .int 0, .int 0, .int 0, .long 0, .int 0, .ref mnow, .ref mread, .ref mkept, .ref msnaps, .ref maside, .ref mname, .ref mreadName, .ref mkeptName, .ref misKept, .ref monces, .int 0, .ref morder, .ref mordered, .int 0, .int 0, .int 0, .int (-1), .int (-1), .ref mtext, .int 0, .int 0, .ref mline, .ref mwritten, .int 0, .int 0, .ref mnode, .int 0, .int 0, .int 0, .int 0])), (mnow, eI G 339 nw0)]) C hw iwX11 tyX11_ok nmX11 10 rfl 0 rfl 0 (by decide) kw1197 rfl rfl rfl (Nat.le_of_ble_eq_true rfl) rfl dX11_moved_2 (fun H locs hw => ?_)
  refine lv_aload_n C.1 C.2.1 dX11_moved_5 rfl (lv_at hl 0 rfl) ?_
  refine lv_iload_n C.1 C.2.1 dX11_moved_6 rfl (lv_at hl 1 rfl) ?_
  refine x_calliV (As := [.int a1]) (rest := []) (wr := []) C hw (c_X11_isSlide qm a1 mtape mnow mread mkept msnaps maside mname mreadName mkeptName misKept monces morder mordered mtext mline mwritten mnode) mwX11_isSlide kw1469 [0, 1] [] rfl rfl rfl rfl (by decide) 0 rfl rfl rfl rfl hl.1 rfl (Nat.le_of_ble_eq_true rfl) ⟨(Nat.le_of_ble_eq_true rfl), (Nat.le_of_ble_eq_true rfl)⟩ ⟨(Nat.le_of_ble_eq_true rfl), (Nat.le_of_ble_eq_true rfl)⟩ dX11_moved_7 (fun r1 u9 H locs hp9 hw => ?_)
  obtain ⟨rfl, rfl⟩ := hp9
  have hw : Wd G s A [(qm, .inr (10, [.int 0, .ref mtape, .int 0, .int 0, .int 0, .int 0, .int 0, .int 0, .int 0, .int 0, .int 0, .int 0, .long 0, .int 0, .ref mnow, .ref mread, .ref mkept, .ref msnaps, .ref maside, .ref mname, .ref mreadName, .ref mkeptName, .ref misKept, .ref monces, .int 0, .ref morder, .ref mordered, .int 0, .int 0, .int 0, .int (-1), .int (-1), .ref mtext, .int 0, .int 0, .ref mline, .ref mwritten, .int 0, .int 0, .ref mnode, .int 0, .int 0, .int 0, .int 0])), (mnow, eI G 339 nw0)] H _ := hw
  refine lv_if_eq (tgt := 22) C.1 C.2.1 dX11_moved_10 (by decide) (fun _ => ?_) (fun h9 => absurd (by decide) h9)
  refine lv_iconst (v := (-1)) C.1 C.2.1 dX11_moved_22 (by decide) ?_
  have hw := hw.sub (w' := []) [] rfl rfl
  exact x_reti B hw ⟨rfl, rfl⟩ (Nat.le_of_ble_eq_true rfl) (Nat.le_of_ble_eq_true rfl) dX11_moved_23
theorem dX11_scratches_0 : decode cX11_scratches 0 = .ok (.aload_n 0, 1) := by decide +kernel
theorem dX11_scratches_1 : decode cX11_scratches 1 = .ok (.iconst 0, 1) := by decide +kernel
theorem dX11_scratches_2 : decode cX11_scratches 2 = .ok (.putfield 1, 3) := by decide +kernel
theorem dX11_scratches_5 : decode cX11_scratches 5 = .ok (.aload_n 0, 1) := by decide +kernel
theorem dX11_scratches_6 : decode cX11_scratches 6 = .ok (.iload_n 1, 1) := by decide +kernel
theorem dX11_scratches_7 : decode cX11_scratches 7 = .ok (.invokevirtual 237, 3) := by decide +kernel
theorem dX11_scratches_10 : decode cX11_scratches 10 = .ok (.ifCond .ne 5, 3) := by decide +kernel
theorem dX11_scratches_13 : decode cX11_scratches 13 = .ok (.iconst (-1), 1) := by decide +kernel
theorem dX11_scratches_14 : decode cX11_scratches 14 = .ok (.ireturn, 1) := by decide +kernel
set_option maxHeartbeats 4000000 in
set_option maxRecDepth 100000 in
theorem c_X11_scratches {l : Launch} {G : Gc} (qm : Nat) (a1 : Int32) (mtape : Nat) (mnow : Nat) (mread : Nat) (mkept : Nat) (msnaps : Nat) (maside : Nat) (mname : Nat) (mreadName : Nat) (mkeptName : Nat) (misKept : Nat) (monces : Nat) (morder : Nat) (mordered : Nat) (mtext : Nat) (mline : Nat) (mwritten : Nat) (mnode : Nat)  : Ci l yX11_scratches cX11_scratches 5 (some .int) 2 0 0 G [.ref qm, .int a1] [(qm, .inr (10, [.int 0, .ref mtape, .int 0, .int 0, .int 0, .int 0, .int 0, .int 0, .int 0, .int 0, .int 0, .int 0, .long 0, .int 0, .ref mnow, .ref mread, .ref mkept, .ref msnaps, .ref maside, .ref mname, .ref mreadName, .ref mkeptName, .ref misKept, .ref monces, .int 0, .ref morder, .ref mordered, .int 0, .int 0, .int 0, .int (-1), .int (-1), .ref mtext, .int 0, .int 0, .ref mline, .ref mwritten, .int 0, .int 0, .ref mnode, .int 0, .int 0, .int 0, .int 0])), (mnow, eI G 339 nw0)] (fun (r9 : Int32) (u9 : va_W) => r9 = (-1) ∧ u9 = []) := by
  refine Ci.of (by decide) (Nat.le_of_ble_eq_true rfl) ?_
  intro p e s m below meth c ls A B hw hl
  have C : CallFix p m c cX11_scratches 5 s _ gw "LanternStateModel" := B.1
  have hl : lv_has ls 5 [(0, .ref qm), (1, .int a1)] := hl
  refine lv_aload_n C.1 C.2.1 dX11_scratches_0 rfl (lv_at hl 0 rfl) ?_
  refine lv_iconst (v := 0) C.1 C.2.1 dX11_scratches_1 (by decide) ?_
  refine x_put (w' := [(qm, .inr (10, [.int 0, .ref mtape, .int 0, .int 0, .int 0, .int 0, .int 0, .int 0, .int 0, .int 0, .int 0, .int 0, .long 0, .int 0, .ref mnow, .ref mread, .ref mkept, .ref msnaps, .ref maside, .ref mname, .ref mreadName, .ref mkeptName, .ref misKept, .ref monces, .int 0, .ref morder, .ref mordered, .int 0, .int 0, .int 0, .int (-1), .int (-1), .ref mtext, .int 0, .int 0, .ref mline, .ref mwritten, .int 0, .int 0, .ref mnode, .int 0, .int 0, .int 0, .int 0])), (mnow, eI G 339 nw0)]) C hw iwX11 tyX11_ok nmX11 10 rfl 0 rfl 0 (by decide) kw1197 rfl rfl rfl (Nat.le_of_ble_eq_true rfl) rfl dX11_scratches_2 (fun H locs hw => ?_)
  refine lv_aload_n C.1 C.2.1 dX11_scratches_5 rfl (lv_at hl 0 rfl) ?_
  refine lv_iload_n C.1 C.2.1 dX11_scratches_6 rfl (lv_at hl 1 rfl) ?_
  refine x_calliV (As := [.int a1]) (rest := []) (wr := []) C hw (c_X11_isSlide qm a1 mtape mnow mread mkept msnaps maside mname mreadName mkeptName misKept monces morder mordered mtext mline mwritten mnode) mwX11_isSlide kw1469 [0, 1] [] rfl rfl rfl rfl (by decide) 0 rfl rfl rfl rfl hl.1 rfl (Nat.le_of_ble_eq_true rfl) ⟨(Nat.le_of_ble_eq_true rfl), (Nat.le_of_ble_eq_true rfl)⟩ ⟨(Nat.le_of_ble_eq_true rfl), (Nat.le_of_ble_eq_true rfl)⟩ dX11_scratches_7 (fun r1 u9 H locs hp9 hw => ?_)
  obtain ⟨rfl, rfl⟩ := hp9
  have hw : Wd G s A [(qm, .inr (10, [.int 0, .ref mtape, .int 0, .int 0, .int 0, .int 0, .int 0, .int 0, .int 0, .int 0, .int 0, .int 0, .long 0, .int 0, .ref mnow, .ref mread, .ref mkept, .ref msnaps, .ref maside, .ref mname, .ref mreadName, .ref mkeptName, .ref misKept, .ref monces, .int 0, .ref morder, .ref mordered, .int 0, .int 0, .int 0, .int (-1), .int (-1), .ref mtext, .int 0, .int 0, .ref mline, .ref mwritten, .int 0, .int 0, .ref mnode, .int 0, .int 0, .int 0, .int 0])), (mnow, eI G 339 nw0)] H _ := hw
  refine lv_if_ne (tgt := 15) C.1 C.2.1 dX11_scratches_10 (by decide) (fun h9 => absurd (by decide) h9) (fun _ => ?_)
  refine lv_iconst (v := (-1)) C.1 C.2.1 dX11_scratches_13 (by decide) ?_
  have hw := hw.sub (w' := []) [] rfl rfl
  exact x_reti B hw ⟨rfl, rfl⟩ (Nat.le_of_ble_eq_true rfl) (Nat.le_of_ble_eq_true rfl) dX11_scratches_14
theorem dX11_alike_0 : decode cX11_alike 0 = .ok (.aload_n 0, 1) := by decide +kernel
theorem dX11_alike_1 : decode cX11_alike 1 = .ok (.iconst 0, 1) := by decide +kernel
theorem dX11_alike_2 : decode cX11_alike 2 = .ok (.putfield 1, 3) := by decide +kernel
theorem dX11_alike_5 : decode cX11_alike 5 = .ok (.aload_n 0, 1) := by decide +kernel
theorem dX11_alike_6 : decode cX11_alike 6 = .ok (.iload_n 1, 1) := by decide +kernel
theorem dX11_alike_7 : decode cX11_alike 7 = .ok (.invokevirtual 237, 3) := by decide +kernel
theorem dX11_alike_10 : decode cX11_alike 10 = .ok (.ifCond .ne 5, 3) := by decide +kernel
theorem dX11_alike_13 : decode cX11_alike 13 = .ok (.iconst (-1), 1) := by decide +kernel
theorem dX11_alike_14 : decode cX11_alike 14 = .ok (.ireturn, 1) := by decide +kernel
set_option maxHeartbeats 4000000 in
set_option maxRecDepth 100000 in
theorem c_X11_alike {l : Launch} {G : Gc} (qm : Nat) (a1 : Int32) (mtape : Nat) (mnow : Nat) (mread : Nat) (mkept : Nat) (msnaps : Nat) (maside : Nat) (mname : Nat) (mreadName : Nat) (mkeptName : Nat) (misKept : Nat) (monces : Nat) (morder : Nat) (mordered : Nat) (mtext : Nat) (mline : Nat) (mwritten : Nat) (mnode : Nat)  : Ci l yX11_alike cX11_alike 4 (some .int) 2 0 0 G [.ref qm, .int a1] [(qm, .inr (10, [.int 0, .ref mtape, .int 0, .int 0, .int 0, .int 0, .int 0, .int 0, .int 0, .int 0, .int 0, .int 0, .long 0, .int 0, .ref mnow, .ref mread, .ref mkept, .ref msnaps, .ref maside, .ref mname, .ref mreadName, .ref mkeptName, .ref misKept, .ref monces, .int 0, .ref morder, .ref mordered, .int 0, .int 0, .int 0, .int (-1), .int (-1), .ref mtext, .int 0, .int 0, .ref mline, .ref mwritten, .int 0, .int 0, .ref mnode, .int 0, .int 0, .int 0, .int 0])), (mnow, eI G 339 nw0)] (fun (r9 : Int32) (u9 : va_W) => r9 = (-1) ∧ u9 = []) := by
  refine Ci.of (by decide) (Nat.le_of_ble_eq_true rfl) ?_
  intro p e s m below meth c ls A B hw hl
  have C : CallFix p m c cX11_alike 4 s _ gw "LanternStateModel" := B.1
  have hl : lv_has ls 4 [(0, .ref qm), (1, .int a1)] := hl
  refine lv_aload_n C.1 C.2.1 dX11_alike_0 rfl (lv_at hl 0 rfl) ?_
  refine lv_iconst (v := 0) C.1 C.2.1 dX11_alike_1 (by decide) ?_
  refine x_put (w' := [(qm, .inr (10, [.int 0, .ref mtape, .int 0, .int 0, .int 0, .int 0, .int 0, .int 0, .int 0, .int 0, .int 0, .int 0, .long 0, .int 0, .ref mnow, .ref mread, .ref mkept, .ref msnaps, .ref maside, .ref mname, .ref mreadName, .ref mkeptName, .ref misKept, .ref monces, .int 0, .ref morder, .ref mordered, .int 0, .int 0, .int 0, .int (-1), .int (-1), .ref mtext, .int 0, .int 0, .ref mline, .ref mwritten, .int 0, .int 0, .ref mnode, .int 0, .int 0, .int 0, .int 0])), (mnow, eI G 339 nw0)]) C hw iwX11 tyX11_ok nmX11 10 rfl 0 rfl 0 (by decide) kw1197 rfl rfl rfl (Nat.le_of_ble_eq_true rfl) rfl dX11_alike_2 (fun H locs hw => ?_)
  refine lv_aload_n C.1 C.2.1 dX11_alike_5 rfl (lv_at hl 0 rfl) ?_
  refine lv_iload_n C.1 C.2.1 dX11_alike_6 rfl (lv_at hl 1 rfl) ?_
  refine x_calliV (As := [.int a1]) (rest := []) (wr := []) C hw (c_X11_isSlide qm a1 mtape mnow mread mkept msnaps maside mname mreadName mkeptName misKept monces morder mordered mtext mline mwritten mnode) mwX11_isSlide kw1469 [0, 1] [] rfl rfl rfl rfl (by decide) 0 rfl rfl rfl rfl hl.1 rfl (Nat.le_of_ble_eq_true rfl) ⟨(Nat.le_of_ble_eq_true rfl), (Nat.le_of_ble_eq_true rfl)⟩ ⟨(Nat.le_of_ble_eq_true rfl), (Nat.le_of_ble_eq_true rfl)⟩ dX11_alike_7 (fun r1 u9 H locs hp9 hw => ?_)
  obtain ⟨rfl, rfl⟩ := hp9
  have hw : Wd G s A [(qm, .inr (10, [.int 0, .ref mtape, .int 0, .int 0, .int 0, .int 0, .int 0, .int 0, .int 0, .int 0, .int 0, .int 0, .long 0, .int 0, .ref mnow, .ref mread, .ref mkept, .ref msnaps, .ref maside, .ref mname, .ref mreadName, .ref mkeptName, .ref misKept, .ref monces, .int 0, .ref morder, .ref mordered, .int 0, .int 0, .int 0, .int (-1), .int (-1), .ref mtext, .int 0, .int 0, .ref mline, .ref mwritten, .int 0, .int 0, .ref mnode, .int 0, .int 0, .int 0, .int 0])), (mnow, eI G 339 nw0)] H _ := hw
  refine lv_if_ne (tgt := 15) C.1 C.2.1 dX11_alike_10 (by decide) (fun h9 => absurd (by decide) h9) (fun _ => ?_)
  refine lv_iconst (v := (-1)) C.1 C.2.1 dX11_alike_13 (by decide) ?_
  have hw := hw.sub (w' := []) [] rfl rfl
  exact x_reti B hw ⟨rfl, rfl⟩ (Nat.le_of_ble_eq_true rfl) (Nat.le_of_ble_eq_true rfl) dX11_alike_14
theorem dX11_differ_0 : decode cX11_differ 0 = .ok (.aload_n 0, 1) := by decide +kernel
theorem dX11_differ_1 : decode cX11_differ 1 = .ok (.iconst 0, 1) := by decide +kernel
theorem dX11_differ_2 : decode cX11_differ 2 = .ok (.putfield 1, 3) := by decide +kernel
theorem dX11_differ_5 : decode cX11_differ 5 = .ok (.aload_n 0, 1) := by decide +kernel
theorem dX11_differ_6 : decode cX11_differ 6 = .ok (.iload_n 1, 1) := by decide +kernel
theorem dX11_differ_7 : decode cX11_differ 7 = .ok (.invokevirtual 237, 3) := by decide +kernel
theorem dX11_differ_10 : decode cX11_differ 10 = .ok (.ifCond .eq 36, 3) := by decide +kernel
theorem dX11_differ_46 : decode cX11_differ 46 = .ok (.iconst (-1), 1) := by decide +kernel
theorem dX11_differ_47 : decode cX11_differ 47 = .ok (.ireturn, 1) := by decide +kernel
set_option maxHeartbeats 4000000 in
set_option maxRecDepth 100000 in
theorem c_X11_differ {l : Launch} {G : Gc} (qm : Nat) (a1 : Int32) (a2 : Int32) (mtape : Nat) (mnow : Nat) (mread : Nat) (mkept : Nat) (msnaps : Nat) (maside : Nat) (mname : Nat) (mreadName : Nat) (mkeptName : Nat) (misKept : Nat) (monces : Nat) (morder : Nat) (mordered : Nat) (mtext : Nat) (mline : Nat) (mwritten : Nat) (mnode : Nat)  : Ci l yX11_differ cX11_differ 3 (some .int) 2 0 0 G [.ref qm, .int a1, .int a2] [(qm, .inr (10, [.int 0, .ref mtape, .int 0, .int 0, .int 0, .int 0, .int 0, .int 0, .int 0, .int 0, .int 0, .int 0, .long 0, .int 0, .ref mnow, .ref mread, .ref mkept, .ref msnaps, .ref maside, .ref mname, .ref mreadName, .ref mkeptName, .ref misKept, .ref monces, .int 0, .ref morder, .ref mordered, .int 0, .int 0, .int 0, .int (-1), .int (-1), .ref mtext, .int 0, .int 0, .ref mline, .ref mwritten, .int 0, .int 0, .ref mnode, .int 0, .int 0, .int 0, .int 0])), (mnow, eI G 339 nw0)] (fun (r9 : Int32) (u9 : va_W) => r9 = (-1) ∧ u9 = []) := by
  refine Ci.of (by decide) (Nat.le_of_ble_eq_true rfl) ?_
  intro p e s m below meth c ls A B hw hl
  have C : CallFix p m c cX11_differ 3 s _ gw "LanternStateModel" := B.1
  have hl : lv_has ls 3 [(0, .ref qm), (1, .int a1), (2, .int a2)] := hl
  refine lv_aload_n C.1 C.2.1 dX11_differ_0 rfl (lv_at hl 0 rfl) ?_
  refine lv_iconst (v := 0) C.1 C.2.1 dX11_differ_1 (by decide) ?_
  refine x_put (w' := [(qm, .inr (10, [.int 0, .ref mtape, .int 0, .int 0, .int 0, .int 0, .int 0, .int 0, .int 0, .int 0, .int 0, .int 0, .long 0, .int 0, .ref mnow, .ref mread, .ref mkept, .ref msnaps, .ref maside, .ref mname, .ref mreadName, .ref mkeptName, .ref misKept, .ref monces, .int 0, .ref morder, .ref mordered, .int 0, .int 0, .int 0, .int (-1), .int (-1), .ref mtext, .int 0, .int 0, .ref mline, .ref mwritten, .int 0, .int 0, .ref mnode, .int 0, .int 0, .int 0, .int 0])), (mnow, eI G 339 nw0)]) C hw iwX11 tyX11_ok nmX11 10 rfl 0 rfl 0 (by decide) kw1197 rfl rfl rfl (Nat.le_of_ble_eq_true rfl) rfl dX11_differ_2 (fun H locs hw => ?_)
  refine lv_aload_n C.1 C.2.1 dX11_differ_5 rfl (lv_at hl 0 rfl) ?_
  refine lv_iload_n C.1 C.2.1 dX11_differ_6 rfl (lv_at hl 1 rfl) ?_
  refine x_calliV (As := [.int a1]) (rest := []) (wr := []) C hw (c_X11_isSlide qm a1 mtape mnow mread mkept msnaps maside mname mreadName mkeptName misKept monces morder mordered mtext mline mwritten mnode) mwX11_isSlide kw1469 [0, 1] [] rfl rfl rfl rfl (by decide) 0 rfl rfl rfl rfl hl.1 rfl (Nat.le_of_ble_eq_true rfl) ⟨(Nat.le_of_ble_eq_true rfl), (Nat.le_of_ble_eq_true rfl)⟩ ⟨(Nat.le_of_ble_eq_true rfl), (Nat.le_of_ble_eq_true rfl)⟩ dX11_differ_7 (fun r1 u9 H locs hp9 hw => ?_)
  obtain ⟨rfl, rfl⟩ := hp9
  have hw : Wd G s A [(qm, .inr (10, [.int 0, .ref mtape, .int 0, .int 0, .int 0, .int 0, .int 0, .int 0, .int 0, .int 0, .int 0, .int 0, .long 0, .int 0, .ref mnow, .ref mread, .ref mkept, .ref msnaps, .ref maside, .ref mname, .ref mreadName, .ref mkeptName, .ref misKept, .ref monces, .int 0, .ref morder, .ref mordered, .int 0, .int 0, .int 0, .int (-1), .int (-1), .ref mtext, .int 0, .int 0, .ref mline, .ref mwritten, .int 0, .int 0, .ref mnode, .int 0, .int 0, .int 0, .int 0])), (mnow, eI G 339 nw0)] H _ := hw
  refine lv_if_eq (tgt := 46) C.1 C.2.1 dX11_differ_10 (by decide) (fun _ => ?_) (fun h9 => absurd (by decide) h9)
  refine lv_iconst (v := (-1)) C.1 C.2.1 dX11_differ_46 (by decide) ?_
  have hw := hw.sub (w' := []) [] rfl rfl
  exact x_reti B hw ⟨rfl, rfl⟩ (Nat.le_of_ble_eq_true rfl) (Nat.le_of_ble_eq_true rfl) dX11_differ_47
theorem dX11_bill_0 : decode cX11_bill 0 = .ok (.aload_n 0, 1) := by decide +kernel
theorem dX11_bill_1 : decode cX11_bill 1 = .ok (.iconst 0, 1) := by decide +kernel
theorem dX11_bill_2 : decode cX11_bill 2 = .ok (.putfield 1, 3) := by decide +kernel
theorem dX11_bill_5 : decode cX11_bill 5 = .ok (.aload_n 0, 1) := by decide +kernel
theorem dX11_bill_6 : decode cX11_bill 6 = .ok (.iload_n 1, 1) := by decide +kernel
theorem dX11_bill_7 : decode cX11_bill 7 = .ok (.invokevirtual 237, 3) := by decide +kernel
theorem dX11_bill_10 : decode cX11_bill 10 = .ok (.ifCond .ne 5, 3) := by decide +kernel
theorem dX11_bill_13 : decode cX11_bill 13 = .ok (.iconst (-1), 1) := by decide +kernel
theorem dX11_bill_14 : decode cX11_bill 14 = .ok (.ireturn, 1) := by decide +kernel
set_option maxHeartbeats 4000000 in
set_option maxRecDepth 100000 in
theorem c_X11_bill {l : Launch} {G : Gc} (qm : Nat) (a1 : Int32) (mtape : Nat) (mnow : Nat) (mread : Nat) (mkept : Nat) (msnaps : Nat) (maside : Nat) (mname : Nat) (mreadName : Nat) (mkeptName : Nat) (misKept : Nat) (monces : Nat) (morder : Nat) (mordered : Nat) (mtext : Nat) (mline : Nat) (mwritten : Nat) (mnode : Nat)  : Ci l yX11_bill cX11_bill 2 (some .int) 2 0 0 G [.ref qm, .int a1] [(qm, .inr (10, [.int 0, .ref mtape, .int 0, .int 0, .int 0, .int 0, .int 0, .int 0, .int 0, .int 0, .int 0, .int 0, .long 0, .int 0, .ref mnow, .ref mread, .ref mkept, .ref msnaps, .ref maside, .ref mname, .ref mreadName, .ref mkeptName, .ref misKept, .ref monces, .int 0, .ref morder, .ref mordered, .int 0, .int 0, .int 0, .int (-1), .int (-1), .ref mtext, .int 0, .int 0, .ref mline, .ref mwritten, .int 0, .int 0, .ref mnode, .int 0, .int 0, .int 0, .int 0])), (mnow, eI G 339 nw0)] (fun (r9 : Int32) (u9 : va_W) => r9 = (-1) ∧ u9 = []) := by
  refine Ci.of (by decide) (Nat.le_of_ble_eq_true rfl) ?_
  intro p e s m below meth c ls A B hw hl
  have C : CallFix p m c cX11_bill 2 s _ gw "LanternStateModel" := B.1
  have hl : lv_has ls 2 [(0, .ref qm), (1, .int a1)] := hl
  refine lv_aload_n C.1 C.2.1 dX11_bill_0 rfl (lv_at hl 0 rfl) ?_
  refine lv_iconst (v := 0) C.1 C.2.1 dX11_bill_1 (by decide) ?_
  refine x_put (w' := [(qm, .inr (10, [.int 0, .ref mtape, .int 0, .int 0, .int 0, .int 0, .int 0, .int 0, .int 0, .int 0, .int 0, .int 0, .long 0, .int 0, .ref mnow, .ref mread, .ref mkept, .ref msnaps, .ref maside, .ref mname, .ref mreadName, .ref mkeptName, .ref misKept, .ref monces, .int 0, .ref morder, .ref mordered, .int 0, .int 0, .int 0, .int (-1), .int (-1), .ref mtext, .int 0, .int 0, .ref mline, .ref mwritten, .int 0, .int 0, .ref mnode, .int 0, .int 0, .int 0, .int 0])), (mnow, eI G 339 nw0)]) C hw iwX11 tyX11_ok nmX11 10 rfl 0 rfl 0 (by decide) kw1197 rfl rfl rfl (Nat.le_of_ble_eq_true rfl) rfl dX11_bill_2 (fun H locs hw => ?_)
  refine lv_aload_n C.1 C.2.1 dX11_bill_5 rfl (lv_at hl 0 rfl) ?_
  refine lv_iload_n C.1 C.2.1 dX11_bill_6 rfl (lv_at hl 1 rfl) ?_
  refine x_calliV (As := [.int a1]) (rest := []) (wr := []) C hw (c_X11_isSlide qm a1 mtape mnow mread mkept msnaps maside mname mreadName mkeptName misKept monces morder mordered mtext mline mwritten mnode) mwX11_isSlide kw1469 [0, 1] [] rfl rfl rfl rfl (by decide) 0 rfl rfl rfl rfl hl.1 rfl (Nat.le_of_ble_eq_true rfl) ⟨(Nat.le_of_ble_eq_true rfl), (Nat.le_of_ble_eq_true rfl)⟩ ⟨(Nat.le_of_ble_eq_true rfl), (Nat.le_of_ble_eq_true rfl)⟩ dX11_bill_7 (fun r1 u9 H locs hp9 hw => ?_)
  obtain ⟨rfl, rfl⟩ := hp9
  have hw : Wd G s A [(qm, .inr (10, [.int 0, .ref mtape, .int 0, .int 0, .int 0, .int 0, .int 0, .int 0, .int 0, .int 0, .int 0, .int 0, .long 0, .int 0, .ref mnow, .ref mread, .ref mkept, .ref msnaps, .ref maside, .ref mname, .ref mreadName, .ref mkeptName, .ref misKept, .ref monces, .int 0, .ref morder, .ref mordered, .int 0, .int 0, .int 0, .int (-1), .int (-1), .ref mtext, .int 0, .int 0, .ref mline, .ref mwritten, .int 0, .int 0, .ref mnode, .int 0, .int 0, .int 0, .int 0])), (mnow, eI G 339 nw0)] H _ := hw
  refine lv_if_ne (tgt := 15) C.1 C.2.1 dX11_bill_10 (by decide) (fun h9 => absurd (by decide) h9) (fun _ => ?_)
  refine lv_iconst (v := (-1)) C.1 C.2.1 dX11_bill_13 (by decide) ?_
  have hw := hw.sub (w' := []) [] rfl rfl
  exact x_reti B hw ⟨rfl, rfl⟩ (Nat.le_of_ble_eq_true rfl) (Nat.le_of_ble_eq_true rfl) dX11_bill_14
theorem dX11_odds_0 : decode cX11_odds 0 = .ok (.aload_n 0, 1) := by decide +kernel
theorem dX11_odds_1 : decode cX11_odds 1 = .ok (.iconst 0, 1) := by decide +kernel
theorem dX11_odds_2 : decode cX11_odds 2 = .ok (.putfield 1, 3) := by decide +kernel
theorem dX11_odds_5 : decode cX11_odds 5 = .ok (.aload_n 0, 1) := by decide +kernel
theorem dX11_odds_6 : decode cX11_odds 6 = .ok (.iload_n 1, 1) := by decide +kernel
theorem dX11_odds_7 : decode cX11_odds 7 = .ok (.invokevirtual 237, 3) := by decide +kernel
theorem dX11_odds_10 : decode cX11_odds 10 = .ok (.ifCond .eq 13, 3) := by decide +kernel
theorem dX11_odds_23 : decode cX11_odds 23 = .ok (.iconst (-1), 1) := by decide +kernel
theorem dX11_odds_24 : decode cX11_odds 24 = .ok (.ireturn, 1) := by decide +kernel
set_option maxHeartbeats 4000000 in
set_option maxRecDepth 100000 in
theorem c_X11_odds {l : Launch} {G : Gc} (qm : Nat) (a1 : Int32) (a2 : Int32) (a3 : Int32) (mtape : Nat) (mnow : Nat) (mread : Nat) (mkept : Nat) (msnaps : Nat) (maside : Nat) (mname : Nat) (mreadName : Nat) (mkeptName : Nat) (misKept : Nat) (monces : Nat) (morder : Nat) (mordered : Nat) (mtext : Nat) (mline : Nat) (mwritten : Nat) (mnode : Nat)  : Ci l yX11_odds cX11_odds 6 (some .int) 2 0 0 G [.ref qm, .int a1, .int a2, .int a3] [(qm, .inr (10, [.int 0, .ref mtape, .int 0, .int 0, .int 0, .int 0, .int 0, .int 0, .int 0, .int 0, .int 0, .int 0, .long 0, .int 0, .ref mnow, .ref mread, .ref mkept, .ref msnaps, .ref maside, .ref mname, .ref mreadName, .ref mkeptName, .ref misKept, .ref monces, .int 0, .ref morder, .ref mordered, .int 0, .int 0, .int 0, .int (-1), .int (-1), .ref mtext, .int 0, .int 0, .ref mline, .ref mwritten, .int 0, .int 0, .ref mnode, .int 0, .int 0, .int 0, .int 0])), (mnow, eI G 339 nw0)] (fun (r9 : Int32) (u9 : va_W) => r9 = (-1) ∧ u9 = []) := by
  refine Ci.of (by decide) (Nat.le_of_ble_eq_true rfl) ?_
  intro p e s m below meth c ls A B hw hl
  have C : CallFix p m c cX11_odds 6 s _ gw "LanternStateModel" := B.1
  have hl : lv_has ls 6 [(0, .ref qm), (1, .int a1), (2, .int a2), (3, .int a3)] := hl
  refine lv_aload_n C.1 C.2.1 dX11_odds_0 rfl (lv_at hl 0 rfl) ?_
  refine lv_iconst (v := 0) C.1 C.2.1 dX11_odds_1 (by decide) ?_
  refine x_put (w' := [(qm, .inr (10, [.int 0, .ref mtape, .int 0, .int 0, .int 0, .int 0, .int 0, .int 0, .int 0, .int 0, .int 0, .int 0, .long 0, .int 0, .ref mnow, .ref mread, .ref mkept, .ref msnaps, .ref maside, .ref mname, .ref mreadName, .ref mkeptName, .ref misKept, .ref monces, .int 0, .ref morder, .ref mordered, .int 0, .int 0, .int 0, .int (-1), .int (-1), .ref mtext, .int 0, .int 0, .ref mline, .ref mwritten, .int 0, .int 0, .ref mnode, .int 0, .int 0, .int 0, .int 0])), (mnow, eI G 339 nw0)]) C hw iwX11 tyX11_ok nmX11 10 rfl 0 rfl 0 (by decide) kw1197 rfl rfl rfl (Nat.le_of_ble_eq_true rfl) rfl dX11_odds_2 (fun H locs hw => ?_)
  refine lv_aload_n C.1 C.2.1 dX11_odds_5 rfl (lv_at hl 0 rfl) ?_
  refine lv_iload_n C.1 C.2.1 dX11_odds_6 rfl (lv_at hl 1 rfl) ?_
  refine x_calliV (As := [.int a1]) (rest := []) (wr := []) C hw (c_X11_isSlide qm a1 mtape mnow mread mkept msnaps maside mname mreadName mkeptName misKept monces morder mordered mtext mline mwritten mnode) mwX11_isSlide kw1469 [0, 1] [] rfl rfl rfl rfl (by decide) 0 rfl rfl rfl rfl hl.1 rfl (Nat.le_of_ble_eq_true rfl) ⟨(Nat.le_of_ble_eq_true rfl), (Nat.le_of_ble_eq_true rfl)⟩ ⟨(Nat.le_of_ble_eq_true rfl), (Nat.le_of_ble_eq_true rfl)⟩ dX11_odds_7 (fun r1 u9 H locs hp9 hw => ?_)
  obtain ⟨rfl, rfl⟩ := hp9
  have hw : Wd G s A [(qm, .inr (10, [.int 0, .ref mtape, .int 0, .int 0, .int 0, .int 0, .int 0, .int 0, .int 0, .int 0, .int 0, .int 0, .long 0, .int 0, .ref mnow, .ref mread, .ref mkept, .ref msnaps, .ref maside, .ref mname, .ref mreadName, .ref mkeptName, .ref misKept, .ref monces, .int 0, .ref morder, .ref mordered, .int 0, .int 0, .int 0, .int (-1), .int (-1), .ref mtext, .int 0, .int 0, .ref mline, .ref mwritten, .int 0, .int 0, .ref mnode, .int 0, .int 0, .int 0, .int 0])), (mnow, eI G 339 nw0)] H _ := hw
  refine lv_if_eq (tgt := 23) C.1 C.2.1 dX11_odds_10 (by decide) (fun _ => ?_) (fun h9 => absurd (by decide) h9)
  refine lv_iconst (v := (-1)) C.1 C.2.1 dX11_odds_23 (by decide) ?_
  have hw := hw.sub (w' := []) [] rfl rfl
  exact x_reti B hw ⟨rfl, rfl⟩ (Nat.le_of_ble_eq_true rfl) (Nat.le_of_ble_eq_true rfl) dX11_odds_24
theorem dX11_thinks_0 : decode cX11_thinks 0 = .ok (.aload_n 0, 1) := by decide +kernel
theorem dX11_thinks_1 : decode cX11_thinks 1 = .ok (.iconst 0, 1) := by decide +kernel
theorem dX11_thinks_2 : decode cX11_thinks 2 = .ok (.putfield 1, 3) := by decide +kernel
theorem dX11_thinks_5 : decode cX11_thinks 5 = .ok (.aload_n 0, 1) := by decide +kernel
theorem dX11_thinks_6 : decode cX11_thinks 6 = .ok (.iload_n 1, 1) := by decide +kernel
theorem dX11_thinks_7 : decode cX11_thinks 7 = .ok (.invokevirtual 258, 3) := by decide +kernel
theorem dX11_thinks_10 : decode cX11_thinks 10 = .ok (.ifCond .eq 21, 3) := by decide +kernel
theorem dX11_thinks_31 : decode cX11_thinks 31 = .ok (.iconst (-1), 1) := by decide +kernel
theorem dX11_thinks_32 : decode cX11_thinks 32 = .ok (.ireturn, 1) := by decide +kernel
set_option maxHeartbeats 4000000 in
set_option maxRecDepth 100000 in
theorem c_X11_thinks {l : Launch} {G : Gc} (qm : Nat) (a1 : Int32) (a2 : Int32) (a3 : Int32) (mtape : Nat) (mnow : Nat) (mread : Nat) (mkept : Nat) (msnaps : Nat) (maside : Nat) (mname : Nat) (mreadName : Nat) (mkeptName : Nat) (misKept : Nat) (monces : Nat) (morder : Nat) (mordered : Nat) (mtext : Nat) (mline : Nat) (mwritten : Nat) (mnode : Nat)  : Ci l yX11_thinks cX11_thinks 5 (some .int) 2 0 0 G [.ref qm, .int a1, .int a2, .int a3] [(qm, .inr (10, [.int 0, .ref mtape, .int 0, .int 0, .int 0, .int 0, .int 0, .int 0, .int 0, .int 0, .int 0, .int 0, .long 0, .int 0, .ref mnow, .ref mread, .ref mkept, .ref msnaps, .ref maside, .ref mname, .ref mreadName, .ref mkeptName, .ref misKept, .ref monces, .int 0, .ref morder, .ref mordered, .int 0, .int 0, .int 0, .int (-1), .int (-1), .ref mtext, .int 0, .int 0, .ref mline, .ref mwritten, .int 0, .int 0, .ref mnode, .int 0, .int 0, .int 0, .int 0])), (mnow, eI G 339 nw0)] (fun (r9 : Int32) (u9 : va_W) => r9 = (-1) ∧ u9 = []) := by
  refine Ci.of (by decide) (Nat.le_of_ble_eq_true rfl) ?_
  intro p e s m below meth c ls A B hw hl
  have C : CallFix p m c cX11_thinks 5 s _ gw "LanternStateModel" := B.1
  have hl : lv_has ls 5 [(0, .ref qm), (1, .int a1), (2, .int a2), (3, .int a3)] := hl
  refine lv_aload_n C.1 C.2.1 dX11_thinks_0 rfl (lv_at hl 0 rfl) ?_
  refine lv_iconst (v := 0) C.1 C.2.1 dX11_thinks_1 (by decide) ?_
  refine x_put (w' := [(qm, .inr (10, [.int 0, .ref mtape, .int 0, .int 0, .int 0, .int 0, .int 0, .int 0, .int 0, .int 0, .int 0, .int 0, .long 0, .int 0, .ref mnow, .ref mread, .ref mkept, .ref msnaps, .ref maside, .ref mname, .ref mreadName, .ref mkeptName, .ref misKept, .ref monces, .int 0, .ref morder, .ref mordered, .int 0, .int 0, .int 0, .int (-1), .int (-1), .ref mtext, .int 0, .int 0, .ref mline, .ref mwritten, .int 0, .int 0, .ref mnode, .int 0, .int 0, .int 0, .int 0])), (mnow, eI G 339 nw0)]) C hw iwX11 tyX11_ok nmX11 10 rfl 0 rfl 0 (by decide) kw1197 rfl rfl rfl (Nat.le_of_ble_eq_true rfl) rfl dX11_thinks_2 (fun H locs hw => ?_)
  refine lv_aload_n C.1 C.2.1 dX11_thinks_5 rfl (lv_at hl 0 rfl) ?_
  refine lv_iload_n C.1 C.2.1 dX11_thinks_6 rfl (lv_at hl 1 rfl) ?_
  refine x_calliV (As := [.int a1]) (rest := []) (wr := []) C hw (c_X11_isHearer qm a1 mtape mnow mread mkept msnaps maside mname mreadName mkeptName misKept monces morder mordered mtext mline mwritten mnode) mwX11_isHearer kw1505 [0, 1] [] rfl rfl rfl rfl (by decide) 0 rfl rfl rfl rfl hl.1 rfl (Nat.le_of_ble_eq_true rfl) ⟨(Nat.le_of_ble_eq_true rfl), (Nat.le_of_ble_eq_true rfl)⟩ ⟨(Nat.le_of_ble_eq_true rfl), (Nat.le_of_ble_eq_true rfl)⟩ dX11_thinks_7 (fun r1 u9 H locs hp9 hw => ?_)
  obtain ⟨rfl, rfl⟩ := hp9
  have hw : Wd G s A [(qm, .inr (10, [.int 0, .ref mtape, .int 0, .int 0, .int 0, .int 0, .int 0, .int 0, .int 0, .int 0, .int 0, .int 0, .long 0, .int 0, .ref mnow, .ref mread, .ref mkept, .ref msnaps, .ref maside, .ref mname, .ref mreadName, .ref mkeptName, .ref misKept, .ref monces, .int 0, .ref morder, .ref mordered, .int 0, .int 0, .int 0, .int (-1), .int (-1), .ref mtext, .int 0, .int 0, .ref mline, .ref mwritten, .int 0, .int 0, .ref mnode, .int 0, .int 0, .int 0, .int 0])), (mnow, eI G 339 nw0)] H _ := hw
  refine lv_if_eq (tgt := 31) C.1 C.2.1 dX11_thinks_10 (by decide) (fun _ => ?_) (fun h9 => absurd (by decide) h9)
  refine lv_iconst (v := (-1)) C.1 C.2.1 dX11_thinks_31 (by decide) ?_
  have hw := hw.sub (w' := []) [] rfl rfl
  exact x_reti B hw ⟨rfl, rfl⟩ (Nat.le_of_ble_eq_true rfl) (Nat.le_of_ble_eq_true rfl) dX11_thinks_32
theorem dX11_sit_0 : decode cX11_sit 0 = .ok (.aload_n 0, 1) := by decide +kernel
theorem dX11_sit_1 : decode cX11_sit 1 = .ok (.iconst 0, 1) := by decide +kernel
theorem dX11_sit_2 : decode cX11_sit 2 = .ok (.putfield 1, 3) := by decide +kernel
theorem dX11_sit_5 : decode cX11_sit 5 = .ok (.aload_n 0, 1) := by decide +kernel
theorem dX11_sit_6 : decode cX11_sit 6 = .ok (.iload_n 1, 1) := by decide +kernel
theorem dX11_sit_7 : decode cX11_sit 7 = .ok (.invokevirtual 258, 3) := by decide +kernel
theorem dX11_sit_10 : decode cX11_sit 10 = .ok (.ifCond .eq 22, 3) := by decide +kernel
theorem dX11_sit_32 : decode cX11_sit 32 = .ok (.iconst (-1), 1) := by decide +kernel
theorem dX11_sit_33 : decode cX11_sit 33 = .ok (.ireturn, 1) := by decide +kernel
set_option maxHeartbeats 4000000 in
set_option maxRecDepth 100000 in
theorem c_X11_sit {l : Launch} {G : Gc} (qm : Nat) (a1 : Int32) (a2 : Int32) (mtape : Nat) (mnow : Nat) (mread : Nat) (mkept : Nat) (msnaps : Nat) (maside : Nat) (mname : Nat) (mreadName : Nat) (mkeptName : Nat) (misKept : Nat) (monces : Nat) (morder : Nat) (mordered : Nat) (mtext : Nat) (mline : Nat) (mwritten : Nat) (mnode : Nat)  : Ci l yX11_sit cX11_sit 3 (some .int) 2 0 0 G [.ref qm, .int a1, .int a2] [(qm, .inr (10, [.int 0, .ref mtape, .int 0, .int 0, .int 0, .int 0, .int 0, .int 0, .int 0, .int 0, .int 0, .int 0, .long 0, .int 0, .ref mnow, .ref mread, .ref mkept, .ref msnaps, .ref maside, .ref mname, .ref mreadName, .ref mkeptName, .ref misKept, .ref monces, .int 0, .ref morder, .ref mordered, .int 0, .int 0, .int 0, .int (-1), .int (-1), .ref mtext, .int 0, .int 0, .ref mline, .ref mwritten, .int 0, .int 0, .ref mnode, .int 0, .int 0, .int 0, .int 0])), (mnow, eI G 339 nw0)] (fun (r9 : Int32) (u9 : va_W) => r9 = (-1) ∧ u9 = []) := by
  refine Ci.of (by decide) (Nat.le_of_ble_eq_true rfl) ?_
  intro p e s m below meth c ls A B hw hl
  have C : CallFix p m c cX11_sit 3 s _ gw "LanternStateModel" := B.1
  have hl : lv_has ls 3 [(0, .ref qm), (1, .int a1), (2, .int a2)] := hl
  refine lv_aload_n C.1 C.2.1 dX11_sit_0 rfl (lv_at hl 0 rfl) ?_
  refine lv_iconst (v := 0) C.1 C.2.1 dX11_sit_1 (by decide) ?_
  refine x_put (w' := [(qm, .inr (10, [.int 0, .ref mtape, .int 0, .int 0, .int 0, .int 0, .int 0, .int 0, .int 0, .int 0, .int 0, .int 0, .long 0, .int 0, .ref mnow, .ref mread, .ref mkept, .ref msnaps, .ref maside, .ref mname, .ref mreadName, .ref mkeptName, .ref misKept, .ref monces, .int 0, .ref morder, .ref mordered, .int 0, .int 0, .int 0, .int (-1), .int (-1), .ref mtext, .int 0, .int 0, .ref mline, .ref mwritten, .int 0, .int 0, .ref mnode, .int 0, .int 0, .int 0, .int 0])), (mnow, eI G 339 nw0)]) C hw iwX11 tyX11_ok nmX11 10 rfl 0 rfl 0 (by decide) kw1197 rfl rfl rfl (Nat.le_of_ble_eq_true rfl) rfl dX11_sit_2 (fun H locs hw => ?_)
  refine lv_aload_n C.1 C.2.1 dX11_sit_5 rfl (lv_at hl 0 rfl) ?_
  refine lv_iload_n C.1 C.2.1 dX11_sit_6 rfl (lv_at hl 1 rfl) ?_
  refine x_calliV (As := [.int a1]) (rest := []) (wr := []) C hw (c_X11_isHearer qm a1 mtape mnow mread mkept msnaps maside mname mreadName mkeptName misKept monces morder mordered mtext mline mwritten mnode) mwX11_isHearer kw1505 [0, 1] [] rfl rfl rfl rfl (by decide) 0 rfl rfl rfl rfl hl.1 rfl (Nat.le_of_ble_eq_true rfl) ⟨(Nat.le_of_ble_eq_true rfl), (Nat.le_of_ble_eq_true rfl)⟩ ⟨(Nat.le_of_ble_eq_true rfl), (Nat.le_of_ble_eq_true rfl)⟩ dX11_sit_7 (fun r1 u9 H locs hp9 hw => ?_)
  obtain ⟨rfl, rfl⟩ := hp9
  have hw : Wd G s A [(qm, .inr (10, [.int 0, .ref mtape, .int 0, .int 0, .int 0, .int 0, .int 0, .int 0, .int 0, .int 0, .int 0, .int 0, .long 0, .int 0, .ref mnow, .ref mread, .ref mkept, .ref msnaps, .ref maside, .ref mname, .ref mreadName, .ref mkeptName, .ref misKept, .ref monces, .int 0, .ref morder, .ref mordered, .int 0, .int 0, .int 0, .int (-1), .int (-1), .ref mtext, .int 0, .int 0, .ref mline, .ref mwritten, .int 0, .int 0, .ref mnode, .int 0, .int 0, .int 0, .int 0])), (mnow, eI G 339 nw0)] H _ := hw
  refine lv_if_eq (tgt := 32) C.1 C.2.1 dX11_sit_10 (by decide) (fun _ => ?_) (fun h9 => absurd (by decide) h9)
  refine lv_iconst (v := (-1)) C.1 C.2.1 dX11_sit_32 (by decide) ?_
  have hw := hw.sub (w' := []) [] rfl rfl
  exact x_reti B hw ⟨rfl, rfl⟩ (Nat.le_of_ble_eq_true rfl) (Nat.le_of_ble_eq_true rfl) dX11_sit_33
theorem dX11_seats_0 : decode cX11_seats 0 = .ok (.iconst 0, 1) := by decide +kernel
theorem dX11_seats_1 : decode cX11_seats 1 = .ok (.istore_n 1, 1) := by decide +kernel
theorem dX11_seats_2 : decode cX11_seats 2 = .ok (.iconst 0, 1) := by decide +kernel
theorem dX11_seats_3 : decode cX11_seats 3 = .ok (.istore_n 2, 1) := by decide +kernel
theorem dX11_seats_4 : decode cX11_seats 4 = .ok (.iload_n 2, 1) := by decide +kernel
theorem dX11_seats_5 : decode cX11_seats 5 = .ok (.aload_n 0, 1) := by decide +kernel
theorem dX11_seats_6 : decode cX11_seats 6 = .ok (.getfield 98, 3) := by decide +kernel
theorem dX11_seats_9 : decode cX11_seats 9 = .ok (.iconst 1, 1) := by decide +kernel
theorem dX11_seats_10 : decode cX11_seats 10 = .ok (.iaload, 1) := by decide +kernel
theorem dX11_seats_11 : decode cX11_seats 11 = .ok (.if_icmp .ge 28, 3) := by decide +kernel
theorem dX11_seats_39 : decode cX11_seats 39 = .ok (.iload_n 1, 1) := by decide +kernel
theorem dX11_seats_40 : decode cX11_seats 40 = .ok (.ireturn, 1) := by decide +kernel
set_option maxHeartbeats 4000000 in
set_option maxRecDepth 100000 in
theorem c_X11_seats {l : Launch} {G : Gc} (qm : Nat) (mtape : Nat) (mnow : Nat) (mread : Nat) (mkept : Nat) (msnaps : Nat) (maside : Nat) (mname : Nat) (mreadName : Nat) (mkeptName : Nat) (misKept : Nat) (monces : Nat) (morder : Nat) (mordered : Nat) (mtext : Nat) (mline : Nat) (mwritten : Nat) (mnode : Nat)  : Ci l yX11_seats cX11_seats 3 (some .int) 0 0 0 G [.ref qm] [(qm, .inr (10, [.int 0, .ref mtape, .int 0, .int 0, .int 0, .int 0, .int 0, .int 0, .int 0, .int 0, .int 0, .int 0, .long 0, .int 0, .ref mnow, .ref mread, .ref mkept, .ref msnaps, .ref maside, .ref mname, .ref mreadName, .ref mkeptName, .ref misKept, .ref monces, .int 0, .ref morder, .ref mordered, .int 0, .int 0, .int 0, .int (-1), .int (-1), .ref mtext, .int 0, .int 0, .ref mline, .ref mwritten, .int 0, .int 0, .ref mnode, .int 0, .int 0, .int 0, .int 0])), (mnow, eI G 339 nw0)] (fun (r9 : Int32) (u9 : va_W) => r9 = 0 ∧ u9 = [(qm, .inr (10, [.int 0, .ref mtape, .int 0, .int 0, .int 0, .int 0, .int 0, .int 0, .int 0, .int 0, .int 0, .int 0, .long 0, .int 0, .ref mnow, .ref mread, .ref mkept, .ref msnaps, .ref maside, .ref mname, .ref mreadName, .ref mkeptName, .ref misKept, .ref monces, .int 0, .ref morder, .ref mordered, .int 0, .int 0, .int 0, .int (-1), .int (-1), .ref mtext, .int 0, .int 0, .ref mline, .ref mwritten, .int 0, .int 0, .ref mnode, .int 0, .int 0, .int 0, .int 0])), (mnow, eI G 339 nw0)]) := by
  refine Ci.of (by decide) (Nat.le_of_ble_eq_true rfl) ?_
  intro p e s m below meth c ls A B hw hl
  have C : CallFix p m c cX11_seats 3 s _ gw "LanternStateModel" := B.1
  have hl : lv_has ls 3 [(0, .ref qm)] := hl
  refine lv_iconst (v := 0) C.1 C.2.1 dX11_seats_0 (by decide) ?_
  refine lv_istore_n (lv' := [(1, .int 0), (0, .ref qm)]) C.1 C.2.1 dX11_seats_1 rfl hl (by decide) rfl (fun ls hl => ?_)
  refine lv_iconst (v := 0) C.1 C.2.1 dX11_seats_2 (by decide) ?_
  refine lv_istore_n (lv' := [(2, .int 0), (1, .int 0), (0, .ref qm)]) C.1 C.2.1 dX11_seats_3 rfl hl (by decide) rfl (fun ls hl => ?_)
  refine lv_iload_n C.1 C.2.1 dX11_seats_4 rfl (lv_at hl 0 rfl) ?_
  refine lv_aload_n C.1 C.2.1 dX11_seats_5 rfl (lv_at hl 2 rfl) ?_
  refine x_get C hw iwX11 10 rfl 0 rfl 14 (by decide) kw1211 rfl dX11_seats_6 ?_
  refine lv_iconst (v := 1) C.1 C.2.1 dX11_seats_9 (by decide) ?_
  refine x_iald (v := 0) C hw 1 rfl (x_in rfl) nw0_1 dX11_seats_10 ?_
  refine lv_icmp_ge (tgt := 39) C.1 C.2.1 dX11_seats_11 (by decide) (fun _ => ?_) (fun h9 => absurd (by decide) h9)
  refine lv_iload_n C.1 C.2.1 dX11_seats_39 rfl (lv_at hl 1 rfl) ?_
  exact x_reti B hw ⟨rfl, rfl⟩ (Nat.le_of_ble_eq_true rfl) (Nat.le_of_ble_eq_true rfl) dX11_seats_40
theorem dX11_allSighs_0 : decode cX11_allSighs 0 = .ok (.iconst 0, 1) := by decide +kernel
theorem dX11_allSighs_1 : decode cX11_allSighs 1 = .ok (.istore_n 1, 1) := by decide +kernel
theorem dX11_allSighs_2 : decode cX11_allSighs 2 = .ok (.iconst 0, 1) := by decide +kernel
theorem dX11_allSighs_3 : decode cX11_allSighs 3 = .ok (.istore_n 2, 1) := by decide +kernel
theorem dX11_allSighs_4 : decode cX11_allSighs 4 = .ok (.iload_n 2, 1) := by decide +kernel
theorem dX11_allSighs_5 : decode cX11_allSighs 5 = .ok (.bipush 8, 2) := by decide +kernel
theorem dX11_allSighs_7 : decode cX11_allSighs 7 = .ok (.if_icmp .ge 21, 3) := by decide +kernel
theorem dX11_allSighs_10 : decode cX11_allSighs 10 = .ok (.iload_n 1, 1) := by decide +kernel
theorem dX11_allSighs_11 : decode cX11_allSighs 11 = .ok (.aload_n 0, 1) := by decide +kernel
theorem dX11_allSighs_12 : decode cX11_allSighs 12 = .ok (.getfield 98, 3) := by decide +kernel
theorem dX11_allSighs_15 : decode cX11_allSighs 15 = .ok (.bipush 89, 2) := by decide +kernel
theorem dX11_allSighs_17 : decode cX11_allSighs 17 = .ok (.iload_n 2, 1) := by decide +kernel
theorem dX11_allSighs_18 : decode cX11_allSighs 18 = .ok (.iadd, 1) := by decide +kernel
theorem dX11_allSighs_19 : decode cX11_allSighs 19 = .ok (.iaload, 1) := by decide +kernel
theorem nw0_89 : nw0 89 = 0 := by decide +kernel
theorem dX11_allSighs_20 : decode cX11_allSighs 20 = .ok (.iadd, 1) := by decide +kernel
theorem dX11_allSighs_21 : decode cX11_allSighs 21 = .ok (.istore_n 1, 1) := by decide +kernel
theorem dX11_allSighs_22 : decode cX11_allSighs 22 = .ok (.iinc 2 1, 3) := by decide +kernel
theorem dX11_allSighs_25 : decode cX11_allSighs 25 = .ok (.goto (-21), 3) := by decide +kernel
theorem nw0_90 : nw0 90 = 0 := by decide +kernel
theorem nw0_91 : nw0 91 = 0 := by decide +kernel
theorem nw0_92 : nw0 92 = 0 := by decide +kernel
theorem nw0_93 : nw0 93 = 0 := by decide +kernel
theorem nw0_94 : nw0 94 = 0 := by decide +kernel
theorem nw0_95 : nw0 95 = 0 := by decide +kernel
theorem nw0_96 : nw0 96 = 0 := by decide +kernel
theorem dX11_allSighs_28 : decode cX11_allSighs 28 = .ok (.iload_n 1, 1) := by decide +kernel
theorem dX11_allSighs_29 : decode cX11_allSighs 29 = .ok (.ireturn, 1) := by decide +kernel
set_option maxHeartbeats 4000000 in
set_option maxRecDepth 100000 in
theorem c_X11_allSighs {l : Launch} {G : Gc} (qm : Nat) (mtape : Nat) (mnow : Nat) (mread : Nat) (mkept : Nat) (msnaps : Nat) (maside : Nat) (mname : Nat) (mreadName : Nat) (mkeptName : Nat) (misKept : Nat) (monces : Nat) (morder : Nat) (mordered : Nat) (mtext : Nat) (mline : Nat) (mwritten : Nat) (mnode : Nat)  : Ci l yX11_allSighs cX11_allSighs 3 (some .int) 0 0 0 G [.ref qm] [(qm, .inr (10, [.int 0, .ref mtape, .int 0, .int 0, .int 0, .int 0, .int 0, .int 0, .int 0, .int 0, .int 0, .int 0, .long 0, .int 0, .ref mnow, .ref mread, .ref mkept, .ref msnaps, .ref maside, .ref mname, .ref mreadName, .ref mkeptName, .ref misKept, .ref monces, .int 0, .ref morder, .ref mordered, .int 0, .int 0, .int 0, .int (-1), .int (-1), .ref mtext, .int 0, .int 0, .ref mline, .ref mwritten, .int 0, .int 0, .ref mnode, .int 0, .int 0, .int 0, .int 0])), (mnow, eI G 339 nw0)] (fun (r9 : Int32) (u9 : va_W) => r9 = 0 ∧ u9 = [(qm, .inr (10, [.int 0, .ref mtape, .int 0, .int 0, .int 0, .int 0, .int 0, .int 0, .int 0, .int 0, .int 0, .int 0, .long 0, .int 0, .ref mnow, .ref mread, .ref mkept, .ref msnaps, .ref maside, .ref mname, .ref mreadName, .ref mkeptName, .ref misKept, .ref monces, .int 0, .ref morder, .ref mordered, .int 0, .int 0, .int 0, .int (-1), .int (-1), .ref mtext, .int 0, .int 0, .ref mline, .ref mwritten, .int 0, .int 0, .ref mnode, .int 0, .int 0, .int 0, .int 0])), (mnow, eI G 339 nw0)]) := by
  refine Ci.of (by decide) (Nat.le_of_ble_eq_true rfl) ?_
  intro p e s m below meth c ls A B hw hl
  have C : CallFix p m c cX11_allSighs 3 s _ gw "LanternStateModel" := B.1
  have hl : lv_has ls 3 [(0, .ref qm)] := hl
  refine lv_iconst (v := 0) C.1 C.2.1 dX11_allSighs_0 (by decide) ?_
  refine lv_istore_n (lv' := [(1, .int 0), (0, .ref qm)]) C.1 C.2.1 dX11_allSighs_1 rfl hl (by decide) rfl (fun ls hl => ?_)
  refine lv_iconst (v := 0) C.1 C.2.1 dX11_allSighs_2 (by decide) ?_
  refine lv_istore_n (lv' := [(2, .int 0), (1, .int 0), (0, .ref qm)]) C.1 C.2.1 dX11_allSighs_3 rfl hl (by decide) rfl (fun ls hl => ?_)
  refine lv_iload_n C.1 C.2.1 dX11_allSighs_4 rfl (lv_at hl 0 rfl) ?_
  refine lv_bipush (v := 8) C.1 C.2.1 dX11_allSighs_5 (by decide) ?_
  refine lv_icmp_ge (tgt := 28) C.1 C.2.1 dX11_allSighs_7 (by decide) (fun h9 => absurd h9 (by decide)) (fun _ => ?_)
  refine lv_iload_n C.1 C.2.1 dX11_allSighs_10 rfl (lv_at hl 1 rfl) ?_
  refine lv_aload_n C.1 C.2.1 dX11_allSighs_11 rfl (lv_at hl 2 rfl) ?_
  refine x_get C hw iwX11 10 rfl 0 rfl 14 (by decide) kw1211 rfl dX11_allSighs_12 ?_
  refine lv_bipush (v := 89) C.1 C.2.1 dX11_allSighs_15 (by decide) ?_
  refine lv_iload_n C.1 C.2.1 dX11_allSighs_17 rfl (lv_at hl 0 rfl) ?_
  refine lv_iadd C.1 C.2.1 dX11_allSighs_18 ?_
  refine x_topi (z := 89) (by decide) ?_
  refine x_iald (v := 0) C hw 1 rfl (x_in rfl) nw0_89 dX11_allSighs_19 ?_
  refine lv_iadd C.1 C.2.1 dX11_allSighs_20 ?_
  refine x_topi (z := 0) (by decide) ?_
  refine lv_istore_n (lv' := [(1, .int 0), (2, .int 0), (0, .ref qm)]) C.1 C.2.1 dX11_allSighs_21 rfl hl (by decide) rfl (fun ls hl => ?_)
  refine lv_iinc (v := 1) (lv' := [(2, .int 1), (1, .int 0), (0, .ref qm)]) C.1 C.2.1 dX11_allSighs_22 hl (k := 1) rfl (by decide) (by decide) rfl (fun ls hl => ?_)
  refine lv_goto (tgt := 4) C.1 C.2.1 dX11_allSighs_25 (by decide) ?_
  refine lv_iload_n C.1 C.2.1 dX11_allSighs_4 rfl (lv_at hl 0 rfl) ?_
  refine lv_bipush (v := 8) C.1 C.2.1 dX11_allSighs_5 (by decide) ?_
  refine lv_icmp_ge (tgt := 28) C.1 C.2.1 dX11_allSighs_7 (by decide) (fun h9 => absurd h9 (by decide)) (fun _ => ?_)
  refine lv_iload_n C.1 C.2.1 dX11_allSighs_10 rfl (lv_at hl 1 rfl) ?_
  refine lv_aload_n C.1 C.2.1 dX11_allSighs_11 rfl (lv_at hl 2 rfl) ?_
  refine x_get C hw iwX11 10 rfl 0 rfl 14 (by decide) kw1211 rfl dX11_allSighs_12 ?_
  refine lv_bipush (v := 89) C.1 C.2.1 dX11_allSighs_15 (by decide) ?_
  refine lv_iload_n C.1 C.2.1 dX11_allSighs_17 rfl (lv_at hl 0 rfl) ?_
  refine lv_iadd C.1 C.2.1 dX11_allSighs_18 ?_
  refine x_topi (z := 90) (by decide) ?_
  refine x_iald (v := 0) C hw 1 rfl (x_in rfl) nw0_90 dX11_allSighs_19 ?_
  refine lv_iadd C.1 C.2.1 dX11_allSighs_20 ?_
  refine x_topi (z := 0) (by decide) ?_
  refine lv_istore_n (lv' := [(1, .int 0), (2, .int 1), (0, .ref qm)]) C.1 C.2.1 dX11_allSighs_21 rfl hl (by decide) rfl (fun ls hl => ?_)
  refine lv_iinc (v := 2) (lv' := [(2, .int 2), (1, .int 0), (0, .ref qm)]) C.1 C.2.1 dX11_allSighs_22 hl (k := 1) rfl (by decide) (by decide) rfl (fun ls hl => ?_)
  refine lv_goto (tgt := 4) C.1 C.2.1 dX11_allSighs_25 (by decide) ?_
  refine lv_iload_n C.1 C.2.1 dX11_allSighs_4 rfl (lv_at hl 0 rfl) ?_
  refine lv_bipush (v := 8) C.1 C.2.1 dX11_allSighs_5 (by decide) ?_
  refine lv_icmp_ge (tgt := 28) C.1 C.2.1 dX11_allSighs_7 (by decide) (fun h9 => absurd h9 (by decide)) (fun _ => ?_)
  refine lv_iload_n C.1 C.2.1 dX11_allSighs_10 rfl (lv_at hl 1 rfl) ?_
  refine lv_aload_n C.1 C.2.1 dX11_allSighs_11 rfl (lv_at hl 2 rfl) ?_
  refine x_get C hw iwX11 10 rfl 0 rfl 14 (by decide) kw1211 rfl dX11_allSighs_12 ?_
  refine lv_bipush (v := 89) C.1 C.2.1 dX11_allSighs_15 (by decide) ?_
  refine lv_iload_n C.1 C.2.1 dX11_allSighs_17 rfl (lv_at hl 0 rfl) ?_
  refine lv_iadd C.1 C.2.1 dX11_allSighs_18 ?_
  refine x_topi (z := 91) (by decide) ?_
  refine x_iald (v := 0) C hw 1 rfl (x_in rfl) nw0_91 dX11_allSighs_19 ?_
  refine lv_iadd C.1 C.2.1 dX11_allSighs_20 ?_
  refine x_topi (z := 0) (by decide) ?_
  refine lv_istore_n (lv' := [(1, .int 0), (2, .int 2), (0, .ref qm)]) C.1 C.2.1 dX11_allSighs_21 rfl hl (by decide) rfl (fun ls hl => ?_)
  refine lv_iinc (v := 3) (lv' := [(2, .int 3), (1, .int 0), (0, .ref qm)]) C.1 C.2.1 dX11_allSighs_22 hl (k := 1) rfl (by decide) (by decide) rfl (fun ls hl => ?_)
  refine lv_goto (tgt := 4) C.1 C.2.1 dX11_allSighs_25 (by decide) ?_
  refine lv_iload_n C.1 C.2.1 dX11_allSighs_4 rfl (lv_at hl 0 rfl) ?_
  refine lv_bipush (v := 8) C.1 C.2.1 dX11_allSighs_5 (by decide) ?_
  refine lv_icmp_ge (tgt := 28) C.1 C.2.1 dX11_allSighs_7 (by decide) (fun h9 => absurd h9 (by decide)) (fun _ => ?_)
  refine lv_iload_n C.1 C.2.1 dX11_allSighs_10 rfl (lv_at hl 1 rfl) ?_
  refine lv_aload_n C.1 C.2.1 dX11_allSighs_11 rfl (lv_at hl 2 rfl) ?_
  refine x_get C hw iwX11 10 rfl 0 rfl 14 (by decide) kw1211 rfl dX11_allSighs_12 ?_
  refine lv_bipush (v := 89) C.1 C.2.1 dX11_allSighs_15 (by decide) ?_
  refine lv_iload_n C.1 C.2.1 dX11_allSighs_17 rfl (lv_at hl 0 rfl) ?_
  refine lv_iadd C.1 C.2.1 dX11_allSighs_18 ?_
  refine x_topi (z := 92) (by decide) ?_
  refine x_iald (v := 0) C hw 1 rfl (x_in rfl) nw0_92 dX11_allSighs_19 ?_
  refine lv_iadd C.1 C.2.1 dX11_allSighs_20 ?_
  refine x_topi (z := 0) (by decide) ?_
  refine lv_istore_n (lv' := [(1, .int 0), (2, .int 3), (0, .ref qm)]) C.1 C.2.1 dX11_allSighs_21 rfl hl (by decide) rfl (fun ls hl => ?_)
  refine lv_iinc (v := 4) (lv' := [(2, .int 4), (1, .int 0), (0, .ref qm)]) C.1 C.2.1 dX11_allSighs_22 hl (k := 1) rfl (by decide) (by decide) rfl (fun ls hl => ?_)
  refine lv_goto (tgt := 4) C.1 C.2.1 dX11_allSighs_25 (by decide) ?_
  refine lv_iload_n C.1 C.2.1 dX11_allSighs_4 rfl (lv_at hl 0 rfl) ?_
  refine lv_bipush (v := 8) C.1 C.2.1 dX11_allSighs_5 (by decide) ?_
  refine lv_icmp_ge (tgt := 28) C.1 C.2.1 dX11_allSighs_7 (by decide) (fun h9 => absurd h9 (by decide)) (fun _ => ?_)
  refine lv_iload_n C.1 C.2.1 dX11_allSighs_10 rfl (lv_at hl 1 rfl) ?_
  refine lv_aload_n C.1 C.2.1 dX11_allSighs_11 rfl (lv_at hl 2 rfl) ?_
  refine x_get C hw iwX11 10 rfl 0 rfl 14 (by decide) kw1211 rfl dX11_allSighs_12 ?_
  refine lv_bipush (v := 89) C.1 C.2.1 dX11_allSighs_15 (by decide) ?_
  refine lv_iload_n C.1 C.2.1 dX11_allSighs_17 rfl (lv_at hl 0 rfl) ?_
  refine lv_iadd C.1 C.2.1 dX11_allSighs_18 ?_
  refine x_topi (z := 93) (by decide) ?_
  refine x_iald (v := 0) C hw 1 rfl (x_in rfl) nw0_93 dX11_allSighs_19 ?_
  refine lv_iadd C.1 C.2.1 dX11_allSighs_20 ?_
  refine x_topi (z := 0) (by decide) ?_
  refine lv_istore_n (lv' := [(1, .int 0), (2, .int 4), (0, .ref qm)]) C.1 C.2.1 dX11_allSighs_21 rfl hl (by decide) rfl (fun ls hl => ?_)
  refine lv_iinc (v := 5) (lv' := [(2, .int 5), (1, .int 0), (0, .ref qm)]) C.1 C.2.1 dX11_allSighs_22 hl (k := 1) rfl (by decide) (by decide) rfl (fun ls hl => ?_)
  refine lv_goto (tgt := 4) C.1 C.2.1 dX11_allSighs_25 (by decide) ?_
  refine lv_iload_n C.1 C.2.1 dX11_allSighs_4 rfl (lv_at hl 0 rfl) ?_
  refine lv_bipush (v := 8) C.1 C.2.1 dX11_allSighs_5 (by decide) ?_
  refine lv_icmp_ge (tgt := 28) C.1 C.2.1 dX11_allSighs_7 (by decide) (fun h9 => absurd h9 (by decide)) (fun _ => ?_)
  refine lv_iload_n C.1 C.2.1 dX11_allSighs_10 rfl (lv_at hl 1 rfl) ?_
  refine lv_aload_n C.1 C.2.1 dX11_allSighs_11 rfl (lv_at hl 2 rfl) ?_
  refine x_get C hw iwX11 10 rfl 0 rfl 14 (by decide) kw1211 rfl dX11_allSighs_12 ?_
  refine lv_bipush (v := 89) C.1 C.2.1 dX11_allSighs_15 (by decide) ?_
  refine lv_iload_n C.1 C.2.1 dX11_allSighs_17 rfl (lv_at hl 0 rfl) ?_
  refine lv_iadd C.1 C.2.1 dX11_allSighs_18 ?_
  refine x_topi (z := 94) (by decide) ?_
  refine x_iald (v := 0) C hw 1 rfl (x_in rfl) nw0_94 dX11_allSighs_19 ?_
  refine lv_iadd C.1 C.2.1 dX11_allSighs_20 ?_
  refine x_topi (z := 0) (by decide) ?_
  refine lv_istore_n (lv' := [(1, .int 0), (2, .int 5), (0, .ref qm)]) C.1 C.2.1 dX11_allSighs_21 rfl hl (by decide) rfl (fun ls hl => ?_)
  refine lv_iinc (v := 6) (lv' := [(2, .int 6), (1, .int 0), (0, .ref qm)]) C.1 C.2.1 dX11_allSighs_22 hl (k := 1) rfl (by decide) (by decide) rfl (fun ls hl => ?_)
  refine lv_goto (tgt := 4) C.1 C.2.1 dX11_allSighs_25 (by decide) ?_
  refine lv_iload_n C.1 C.2.1 dX11_allSighs_4 rfl (lv_at hl 0 rfl) ?_
  refine lv_bipush (v := 8) C.1 C.2.1 dX11_allSighs_5 (by decide) ?_
  refine lv_icmp_ge (tgt := 28) C.1 C.2.1 dX11_allSighs_7 (by decide) (fun h9 => absurd h9 (by decide)) (fun _ => ?_)
  refine lv_iload_n C.1 C.2.1 dX11_allSighs_10 rfl (lv_at hl 1 rfl) ?_
  refine lv_aload_n C.1 C.2.1 dX11_allSighs_11 rfl (lv_at hl 2 rfl) ?_
  refine x_get C hw iwX11 10 rfl 0 rfl 14 (by decide) kw1211 rfl dX11_allSighs_12 ?_
  refine lv_bipush (v := 89) C.1 C.2.1 dX11_allSighs_15 (by decide) ?_
  refine lv_iload_n C.1 C.2.1 dX11_allSighs_17 rfl (lv_at hl 0 rfl) ?_
  refine lv_iadd C.1 C.2.1 dX11_allSighs_18 ?_
  refine x_topi (z := 95) (by decide) ?_
  refine x_iald (v := 0) C hw 1 rfl (x_in rfl) nw0_95 dX11_allSighs_19 ?_
  refine lv_iadd C.1 C.2.1 dX11_allSighs_20 ?_
  refine x_topi (z := 0) (by decide) ?_
  refine lv_istore_n (lv' := [(1, .int 0), (2, .int 6), (0, .ref qm)]) C.1 C.2.1 dX11_allSighs_21 rfl hl (by decide) rfl (fun ls hl => ?_)
  refine lv_iinc (v := 7) (lv' := [(2, .int 7), (1, .int 0), (0, .ref qm)]) C.1 C.2.1 dX11_allSighs_22 hl (k := 1) rfl (by decide) (by decide) rfl (fun ls hl => ?_)
  refine lv_goto (tgt := 4) C.1 C.2.1 dX11_allSighs_25 (by decide) ?_
  refine lv_iload_n C.1 C.2.1 dX11_allSighs_4 rfl (lv_at hl 0 rfl) ?_
  refine lv_bipush (v := 8) C.1 C.2.1 dX11_allSighs_5 (by decide) ?_
  refine lv_icmp_ge (tgt := 28) C.1 C.2.1 dX11_allSighs_7 (by decide) (fun h9 => absurd h9 (by decide)) (fun _ => ?_)
  refine lv_iload_n C.1 C.2.1 dX11_allSighs_10 rfl (lv_at hl 1 rfl) ?_
  refine lv_aload_n C.1 C.2.1 dX11_allSighs_11 rfl (lv_at hl 2 rfl) ?_
  refine x_get C hw iwX11 10 rfl 0 rfl 14 (by decide) kw1211 rfl dX11_allSighs_12 ?_
  refine lv_bipush (v := 89) C.1 C.2.1 dX11_allSighs_15 (by decide) ?_
  refine lv_iload_n C.1 C.2.1 dX11_allSighs_17 rfl (lv_at hl 0 rfl) ?_
  refine lv_iadd C.1 C.2.1 dX11_allSighs_18 ?_
  refine x_topi (z := 96) (by decide) ?_
  refine x_iald (v := 0) C hw 1 rfl (x_in rfl) nw0_96 dX11_allSighs_19 ?_
  refine lv_iadd C.1 C.2.1 dX11_allSighs_20 ?_
  refine x_topi (z := 0) (by decide) ?_
  refine lv_istore_n (lv' := [(1, .int 0), (2, .int 7), (0, .ref qm)]) C.1 C.2.1 dX11_allSighs_21 rfl hl (by decide) rfl (fun ls hl => ?_)
  refine lv_iinc (v := 8) (lv' := [(2, .int 8), (1, .int 0), (0, .ref qm)]) C.1 C.2.1 dX11_allSighs_22 hl (k := 1) rfl (by decide) (by decide) rfl (fun ls hl => ?_)
  refine lv_goto (tgt := 4) C.1 C.2.1 dX11_allSighs_25 (by decide) ?_
  refine lv_iload_n C.1 C.2.1 dX11_allSighs_4 rfl (lv_at hl 0 rfl) ?_
  refine lv_bipush (v := 8) C.1 C.2.1 dX11_allSighs_5 (by decide) ?_
  refine lv_icmp_ge (tgt := 28) C.1 C.2.1 dX11_allSighs_7 (by decide) (fun _ => ?_) (fun h9 => absurd (by decide) h9)
  refine lv_iload_n C.1 C.2.1 dX11_allSighs_28 rfl (lv_at hl 1 rfl) ?_
  exact x_reti B hw ⟨rfl, rfl⟩ (Nat.le_of_ble_eq_true rfl) (Nat.le_of_ble_eq_true rfl) dX11_allSighs_29
theorem dX11_now_0 : decode cX11_now 0 = .ok (.aload_n 0, 1) := by decide +kernel
theorem dX11_now_1 : decode cX11_now 1 = .ok (.iconst 0, 1) := by decide +kernel
theorem dX11_now_2 : decode cX11_now 2 = .ok (.putfield 1, 3) := by decide +kernel
theorem dX11_now_5 : decode cX11_now 5 = .ok (.iload_n 1, 1) := by decide +kernel
theorem dX11_now_6 : decode cX11_now 6 = .ok (.tableswitch 92 0 6 #[42, 50, 58, 66, 74, 82, 87], 42) := by decide +kernel
theorem dX11_now_48 : decode cX11_now 48 = .ok (.aload_n 0, 1) := by decide +kernel
theorem dX11_now_49 : decode cX11_now 49 = .ok (.getfield 98, 3) := by decide +kernel
theorem dX11_now_52 : decode cX11_now 52 = .ok (.bipush 64, 2) := by decide +kernel
theorem dX11_now_54 : decode cX11_now 54 = .ok (.iaload, 1) := by decide +kernel
theorem nw0_64 : nw0 64 = 0 := by decide +kernel
theorem dX11_now_55 : decode cX11_now 55 = .ok (.ireturn, 1) := by decide +kernel
theorem dX11_now_56 : decode cX11_now 56 = .ok (.aload_n 0, 1) := by decide +kernel
theorem dX11_now_57 : decode cX11_now 57 = .ok (.getfield 98, 3) := by decide +kernel
theorem dX11_now_60 : decode cX11_now 60 = .ok (.bipush 65, 2) := by decide +kernel
theorem dX11_now_62 : decode cX11_now 62 = .ok (.iaload, 1) := by decide +kernel
theorem nw0_65 : nw0 65 = 0 := by decide +kernel
theorem dX11_now_63 : decode cX11_now 63 = .ok (.ireturn, 1) := by decide +kernel
theorem dX11_now_64 : decode cX11_now 64 = .ok (.aload_n 0, 1) := by decide +kernel
theorem dX11_now_65 : decode cX11_now 65 = .ok (.getfield 98, 3) := by decide +kernel
theorem dX11_now_68 : decode cX11_now 68 = .ok (.bipush 66, 2) := by decide +kernel
theorem dX11_now_70 : decode cX11_now 70 = .ok (.iaload, 1) := by decide +kernel
theorem nw0_66 : nw0 66 = 0 := by decide +kernel
theorem dX11_now_71 : decode cX11_now 71 = .ok (.ireturn, 1) := by decide +kernel
theorem dX11_now_72 : decode cX11_now 72 = .ok (.aload_n 0, 1) := by decide +kernel
theorem dX11_now_73 : decode cX11_now 73 = .ok (.getfield 98, 3) := by decide +kernel
theorem dX11_now_76 : decode cX11_now 76 = .ok (.bipush 67, 2) := by decide +kernel
theorem dX11_now_78 : decode cX11_now 78 = .ok (.iaload, 1) := by decide +kernel
theorem nw0_67 : nw0 67 = 0 := by decide +kernel
theorem dX11_now_79 : decode cX11_now 79 = .ok (.ireturn, 1) := by decide +kernel
theorem dX11_now_80 : decode cX11_now 80 = .ok (.aload_n 0, 1) := by decide +kernel
theorem dX11_now_81 : decode cX11_now 81 = .ok (.getfield 98, 3) := by decide +kernel
theorem dX11_now_84 : decode cX11_now 84 = .ok (.bipush 68, 2) := by decide +kernel
theorem dX11_now_86 : decode cX11_now 86 = .ok (.iaload, 1) := by decide +kernel
theorem nw0_68 : nw0 68 = 0 := by decide +kernel
theorem dX11_now_87 : decode cX11_now 87 = .ok (.ireturn, 1) := by decide +kernel
theorem dX11_now_88 : decode cX11_now 88 = .ok (.aload_n 0, 1) := by decide +kernel
theorem dX11_now_89 : decode cX11_now 89 = .ok (.invokevirtual 261, 3) := by decide +kernel
theorem mwX11_seats : MwV yX11_seats cX11_seats 3 (some .int) 0 := ⟨⟨kw1520, kw15, by decide +kernel⟩, kw1519, kS75⟩
theorem dX11_now_92 : decode cX11_now 92 = .ok (.ireturn, 1) := by decide +kernel
theorem dX11_now_93 : decode cX11_now 93 = .ok (.aload_n 0, 1) := by decide +kernel
theorem dX11_now_94 : decode cX11_now 94 = .ok (.invokevirtual 264, 3) := by decide +kernel
theorem mwX11_allSighs : MwV yX11_allSighs cX11_allSighs 3 (some .int) 0 := ⟨⟨kw1524, kw15, by decide +kernel⟩, kw1523, kS76⟩
theorem dX11_now_97 : decode cX11_now 97 = .ok (.ireturn, 1) := by decide +kernel
theorem dX11_now_98 : decode cX11_now 98 = .ok (.iconst (-1), 1) := by decide +kernel
theorem dX11_now_99 : decode cX11_now 99 = .ok (.ireturn, 1) := by decide +kernel
set_option maxHeartbeats 4000000 in
set_option maxRecDepth 100000 in
theorem c_X11_now {l : Launch} {G : Gc} (qm : Nat) (w9 : Int32) (mtape : Nat) (mnow : Nat) (mread : Nat) (mkept : Nat) (msnaps : Nat) (maside : Nat) (mname : Nat) (mreadName : Nat) (mkeptName : Nat) (misKept : Nat) (monces : Nat) (morder : Nat) (mordered : Nat) (mtext : Nat) (mline : Nat) (mwritten : Nat) (mnode : Nat)  : Ci l yX11_now cX11_now 2 (some .int) 1 0 0 G [.ref qm, .int w9] [(qm, .inr (10, [.int 0, .ref mtape, .int 0, .int 0, .int 0, .int 0, .int 0, .int 0, .int 0, .int 0, .int 0, .int 0, .long 0, .int 0, .ref mnow, .ref mread, .ref mkept, .ref msnaps, .ref maside, .ref mname, .ref mreadName, .ref mkeptName, .ref misKept, .ref monces, .int 0, .ref morder, .ref mordered, .int 0, .int 0, .int 0, .int (-1), .int (-1), .ref mtext, .int 0, .int 0, .ref mline, .ref mwritten, .int 0, .int 0, .ref mnode, .int 0, .int 0, .int 0, .int 0])), (mnow, eI G 339 nw0)] (fun (r9 : Int32) (u9 : va_W) => r9 = (nowF w9) ∧ u9 = []) := by
  refine Ci.of (by decide) (Nat.le_of_ble_eq_true rfl) ?_
  intro p e s m below meth c ls A B hw hl
  have C : CallFix p m c cX11_now 2 s _ gw "LanternStateModel" := B.1
  have hl : lv_has ls 2 [(0, .ref qm), (1, .int w9)] := hl
  refine lv_aload_n C.1 C.2.1 dX11_now_0 rfl (lv_at hl 0 rfl) ?_
  refine lv_iconst (v := 0) C.1 C.2.1 dX11_now_1 (by decide) ?_
  refine x_put (w' := [(qm, .inr (10, [.int 0, .ref mtape, .int 0, .int 0, .int 0, .int 0, .int 0, .int 0, .int 0, .int 0, .int 0, .int 0, .long 0, .int 0, .ref mnow, .ref mread, .ref mkept, .ref msnaps, .ref maside, .ref mname, .ref mreadName, .ref mkeptName, .ref misKept, .ref monces, .int 0, .ref morder, .ref mordered, .int 0, .int 0, .int 0, .int (-1), .int (-1), .ref mtext, .int 0, .int 0, .ref mline, .ref mwritten, .int 0, .int 0, .ref mnode, .int 0, .int 0, .int 0, .int 0])), (mnow, eI G 339 nw0)]) C hw iwX11 tyX11_ok nmX11 10 rfl 0 rfl 0 (by decide) kw1197 rfl rfl rfl (Nat.le_of_ble_eq_true rfl) rfl dX11_now_2 (fun H locs hw => ?_)
  refine lv_iload_n C.1 C.2.1 dX11_now_5 rfl (lv_at hl 1 rfl) ?_
  by_cases hk1 : w9 = 0
  · skip
    subst hk1
    refine lv_tableIn (off := 42) (tgt := 48) C.1 C.2.1 dX11_now_6 (by decide) (by decide) rfl (by decide) ?_
    refine lv_aload_n C.1 C.2.1 dX11_now_48 rfl (lv_at hl 0 rfl) ?_
    refine x_get C hw iwX11 10 rfl 0 rfl 14 (by decide) kw1211 rfl dX11_now_49 ?_
    refine lv_bipush (v := 64) C.1 C.2.1 dX11_now_52 (by decide) ?_
    refine x_iald (v := 0) C hw 1 rfl (x_in rfl) nw0_64 dX11_now_54 ?_
    have hw := hw.sub (w' := []) [] rfl rfl
    exact x_reti B hw ⟨rfl, rfl⟩ (Nat.le_of_ble_eq_true rfl) (Nat.le_of_ble_eq_true rfl) dX11_now_55
  by_cases hk2 : w9 = 1
  · skip
    subst hk2
    refine lv_tableIn (off := 50) (tgt := 56) C.1 C.2.1 dX11_now_6 (by decide) (by decide) rfl (by decide) ?_
    refine lv_aload_n C.1 C.2.1 dX11_now_56 rfl (lv_at hl 0 rfl) ?_
    refine x_get C hw iwX11 10 rfl 0 rfl 14 (by decide) kw1211 rfl dX11_now_57 ?_
    refine lv_bipush (v := 65) C.1 C.2.1 dX11_now_60 (by decide) ?_
    refine x_iald (v := 0) C hw 1 rfl (x_in rfl) nw0_65 dX11_now_62 ?_
    have hw := hw.sub (w' := []) [] rfl rfl
    exact x_reti B hw ⟨rfl, rfl⟩ (Nat.le_of_ble_eq_true rfl) (Nat.le_of_ble_eq_true rfl) dX11_now_63
  by_cases hk3 : w9 = 2
  · skip
    subst hk3
    refine lv_tableIn (off := 58) (tgt := 64) C.1 C.2.1 dX11_now_6 (by decide) (by decide) rfl (by decide) ?_
    refine lv_aload_n C.1 C.2.1 dX11_now_64 rfl (lv_at hl 0 rfl) ?_
    refine x_get C hw iwX11 10 rfl 0 rfl 14 (by decide) kw1211 rfl dX11_now_65 ?_
    refine lv_bipush (v := 66) C.1 C.2.1 dX11_now_68 (by decide) ?_
    refine x_iald (v := 0) C hw 1 rfl (x_in rfl) nw0_66 dX11_now_70 ?_
    have hw := hw.sub (w' := []) [] rfl rfl
    exact x_reti B hw ⟨rfl, rfl⟩ (Nat.le_of_ble_eq_true rfl) (Nat.le_of_ble_eq_true rfl) dX11_now_71
  by_cases hk4 : w9 = 3
  · skip
    subst hk4
    refine lv_tableIn (off := 66) (tgt := 72) C.1 C.2.1 dX11_now_6 (by decide) (by decide) rfl (by decide) ?_
    refine lv_aload_n C.1 C.2.1 dX11_now_72 rfl (lv_at hl 0 rfl) ?_
    refine x_get C hw iwX11 10 rfl 0 rfl 14 (by decide) kw1211 rfl dX11_now_73 ?_
    refine lv_bipush (v := 67) C.1 C.2.1 dX11_now_76 (by decide) ?_
    refine x_iald (v := 0) C hw 1 rfl (x_in rfl) nw0_67 dX11_now_78 ?_
    have hw := hw.sub (w' := []) [] rfl rfl
    exact x_reti B hw ⟨rfl, rfl⟩ (Nat.le_of_ble_eq_true rfl) (Nat.le_of_ble_eq_true rfl) dX11_now_79
  by_cases hk5 : w9 = 4
  · skip
    subst hk5
    refine lv_tableIn (off := 74) (tgt := 80) C.1 C.2.1 dX11_now_6 (by decide) (by decide) rfl (by decide) ?_
    refine lv_aload_n C.1 C.2.1 dX11_now_80 rfl (lv_at hl 0 rfl) ?_
    refine x_get C hw iwX11 10 rfl 0 rfl 14 (by decide) kw1211 rfl dX11_now_81 ?_
    refine lv_bipush (v := 68) C.1 C.2.1 dX11_now_84 (by decide) ?_
    refine x_iald (v := 0) C hw 1 rfl (x_in rfl) nw0_68 dX11_now_86 ?_
    have hw := hw.sub (w' := []) [] rfl rfl
    exact x_reti B hw ⟨rfl, rfl⟩ (Nat.le_of_ble_eq_true rfl) (Nat.le_of_ble_eq_true rfl) dX11_now_87
  by_cases hk6 : w9 = 5
  · skip
    subst hk6
    refine lv_tableIn (off := 82) (tgt := 88) C.1 C.2.1 dX11_now_6 (by decide) (by decide) rfl (by decide) ?_
    refine lv_aload_n C.1 C.2.1 dX11_now_88 rfl (lv_at hl 0 rfl) ?_
    refine x_calliV (As := []) (rest := []) (wr := []) C hw (c_X11_seats qm mtape mnow mread mkept msnaps maside mname mreadName mkeptName misKept monces morder mordered mtext mline mwritten mnode) mwX11_seats kw1517 [0, 1] [] rfl rfl rfl rfl (by decide) 0 rfl rfl rfl rfl hl.1 rfl (Nat.le_of_ble_eq_true rfl) ⟨(Nat.le_of_ble_eq_true rfl), (Nat.le_of_ble_eq_true rfl)⟩ ⟨(Nat.le_of_ble_eq_true rfl), (Nat.le_of_ble_eq_true rfl)⟩ dX11_now_89 (fun r7 u9 H locs hp9 hw => ?_)
    obtain ⟨rfl, rfl⟩ := hp9
    have hw : Wd G s A [(qm, .inr (10, [.int 0, .ref mtape, .int 0, .int 0, .int 0, .int 0, .int 0, .int 0, .int 0, .int 0, .int 0, .int 0, .long 0, .int 0, .ref mnow, .ref mread, .ref mkept, .ref msnaps, .ref maside, .ref mname, .ref mreadName, .ref mkeptName, .ref misKept, .ref monces, .int 0, .ref morder, .ref mordered, .int 0, .int 0, .int 0, .int (-1), .int (-1), .ref mtext, .int 0, .int 0, .ref mline, .ref mwritten, .int 0, .int 0, .ref mnode, .int 0, .int 0, .int 0, .int 0])), (mnow, eI G 339 nw0)] H _ := hw
    have hw := hw.sub (w' := []) [] rfl rfl
    exact x_reti B hw ⟨rfl, rfl⟩ (Nat.le_of_ble_eq_true rfl) (Nat.le_of_ble_eq_true rfl) dX11_now_92
  by_cases hk8 : w9 = 6
  · skip
    subst hk8
    refine lv_tableIn (off := 87) (tgt := 93) C.1 C.2.1 dX11_now_6 (by decide) (by decide) rfl (by decide) ?_
    refine lv_aload_n C.1 C.2.1 dX11_now_93 rfl (lv_at hl 0 rfl) ?_
    refine x_calliV (As := []) (rest := []) (wr := []) C hw (c_X11_allSighs qm mtape mnow mread mkept msnaps maside mname mreadName mkeptName misKept monces morder mordered mtext mline mwritten mnode) mwX11_allSighs kw1521 [0, 1] [] rfl rfl rfl rfl (by decide) 0 rfl rfl rfl rfl hl.1 rfl (Nat.le_of_ble_eq_true rfl) ⟨(Nat.le_of_ble_eq_true rfl), (Nat.le_of_ble_eq_true rfl)⟩ ⟨(Nat.le_of_ble_eq_true rfl), (Nat.le_of_ble_eq_true rfl)⟩ dX11_now_94 (fun r9 u9 H locs hp9 hw => ?_)
    obtain ⟨rfl, rfl⟩ := hp9
    have hw : Wd G s A [(qm, .inr (10, [.int 0, .ref mtape, .int 0, .int 0, .int 0, .int 0, .int 0, .int 0, .int 0, .int 0, .int 0, .int 0, .long 0, .int 0, .ref mnow, .ref mread, .ref mkept, .ref msnaps, .ref maside, .ref mname, .ref mreadName, .ref mkeptName, .ref misKept, .ref monces, .int 0, .ref morder, .ref mordered, .int 0, .int 0, .int 0, .int (-1), .int (-1), .ref mtext, .int 0, .int 0, .ref mline, .ref mwritten, .int 0, .int 0, .ref mnode, .int 0, .int 0, .int 0, .int 0])), (mnow, eI G 339 nw0)] H _ := hw
    have hw := hw.sub (w' := []) [] rfl rfl
    exact x_reti B hw ⟨rfl, rfl⟩ (Nat.le_of_ble_eq_true rfl) (Nat.le_of_ble_eq_true rfl) dX11_now_97
  refine lv_tableOut (tgt := 98) C.1 C.2.1 dX11_now_6 (by have t0 := x_ne hk1 (z := 0) rfl; have t1 := x_ne hk2 (z := 1) rfl; have t2 := x_ne hk3 (z := 2) rfl; have t3 := x_ne hk4 (z := 3) rfl; have t4 := x_ne hk5 (z := 4) rfl; have t5 := x_ne hk6 (z := 5) rfl; have t6 := x_ne hk8 (z := 6) rfl; omega) (by decide) ?_
  refine lv_iconst (v := (-1)) C.1 C.2.1 dX11_now_98 (by decide) ?_
  have hw := hw.sub (w' := []) [] rfl rfl
  exact x_reti B hw ⟨(by unfold nowF; rw [if_neg hk1, if_neg hk2, if_neg hk3, if_neg hk4, if_neg hk5, if_neg hk6, if_neg hk8]), rfl⟩ (Nat.le_of_ble_eq_true rfl) (Nat.le_of_ble_eq_true rfl) dX11_now_99
theorem dX11_count_0 : decode cX11_count 0 = .ok (.aload_n 0, 1) := by decide +kernel
theorem dX11_count_1 : decode cX11_count 1 = .ok (.iconst 0, 1) := by decide +kernel
theorem dX11_count_2 : decode cX11_count 2 = .ok (.putfield 1, 3) := by decide +kernel
theorem dX11_count_5 : decode cX11_count 5 = .ok (.iload_n 1, 1) := by decide +kernel
theorem dX11_count_6 : decode cX11_count 6 = .ok (.tableswitch 89 0 6 #[42, 49, 56, 63, 70, 77, 84], 42) := by decide +kernel
theorem dX11_count_48 : decode cX11_count 48 = .ok (.aload_n 0, 1) := by decide +kernel
theorem dX11_count_49 : decode cX11_count 49 = .ok (.getfield 98, 3) := by decide +kernel
theorem dX11_count_52 : decode cX11_count 52 = .ok (.iconst 0, 1) := by decide +kernel
theorem dX11_count_53 : decode cX11_count 53 = .ok (.iaload, 1) := by decide +kernel
theorem dX11_count_54 : decode cX11_count 54 = .ok (.ireturn, 1) := by decide +kernel
theorem dX11_count_55 : decode cX11_count 55 = .ok (.aload_n 0, 1) := by decide +kernel
theorem dX11_count_56 : decode cX11_count 56 = .ok (.getfield 98, 3) := by decide +kernel
theorem dX11_count_59 : decode cX11_count 59 = .ok (.iconst 1, 1) := by decide +kernel
theorem dX11_count_60 : decode cX11_count 60 = .ok (.iaload, 1) := by decide +kernel
theorem dX11_count_61 : decode cX11_count 61 = .ok (.ireturn, 1) := by decide +kernel
theorem dX11_count_62 : decode cX11_count 62 = .ok (.aload_n 0, 1) := by decide +kernel
theorem dX11_count_63 : decode cX11_count 63 = .ok (.getfield 98, 3) := by decide +kernel
theorem dX11_count_66 : decode cX11_count 66 = .ok (.iconst 2, 1) := by decide +kernel
theorem dX11_count_67 : decode cX11_count 67 = .ok (.iaload, 1) := by decide +kernel
theorem nw0_2 : nw0 2 = 0 := by decide +kernel
theorem dX11_count_68 : decode cX11_count 68 = .ok (.ireturn, 1) := by decide +kernel
theorem dX11_count_69 : decode cX11_count 69 = .ok (.aload_n 0, 1) := by decide +kernel
theorem dX11_count_70 : decode cX11_count 70 = .ok (.getfield 98, 3) := by decide +kernel
theorem dX11_count_73 : decode cX11_count 73 = .ok (.iconst 3, 1) := by decide +kernel
theorem dX11_count_74 : decode cX11_count 74 = .ok (.iaload, 1) := by decide +kernel
theorem nw0_3 : nw0 3 = 1 := by decide +kernel
theorem dX11_count_75 : decode cX11_count 75 = .ok (.ireturn, 1) := by decide +kernel
theorem dX11_count_76 : decode cX11_count 76 = .ok (.aload_n 0, 1) := by decide +kernel
theorem dX11_count_77 : decode cX11_count 77 = .ok (.getfield 98, 3) := by decide +kernel
theorem dX11_count_80 : decode cX11_count 80 = .ok (.iconst 4, 1) := by decide +kernel
theorem dX11_count_81 : decode cX11_count 81 = .ok (.iaload, 1) := by decide +kernel
theorem nw0_4 : nw0 4 = 0 := by decide +kernel
theorem dX11_count_82 : decode cX11_count 82 = .ok (.ireturn, 1) := by decide +kernel
theorem dX11_count_83 : decode cX11_count 83 = .ok (.aload_n 0, 1) := by decide +kernel
theorem dX11_count_84 : decode cX11_count 84 = .ok (.getfield 98, 3) := by decide +kernel
theorem dX11_count_87 : decode cX11_count 87 = .ok (.iconst 5, 1) := by decide +kernel
theorem dX11_count_88 : decode cX11_count 88 = .ok (.iaload, 1) := by decide +kernel
theorem nw0_5 : nw0 5 = 40 := by decide +kernel
theorem dX11_count_89 : decode cX11_count 89 = .ok (.ireturn, 1) := by decide +kernel
theorem dX11_count_90 : decode cX11_count 90 = .ok (.aload_n 0, 1) := by decide +kernel
theorem dX11_count_91 : decode cX11_count 91 = .ok (.getfield 11, 3) := by decide +kernel
theorem dX11_count_94 : decode cX11_count 94 = .ok (.ireturn, 1) := by decide +kernel
theorem dX11_count_95 : decode cX11_count 95 = .ok (.iconst (-1), 1) := by decide +kernel
theorem dX11_count_96 : decode cX11_count 96 = .ok (.ireturn, 1) := by decide +kernel
set_option maxHeartbeats 4000000 in
set_option maxRecDepth 100000 in
theorem c_X11_count {l : Launch} {G : Gc} (qm : Nat) (w9 : Int32) (mtape : Nat) (mnow : Nat) (mread : Nat) (mkept : Nat) (msnaps : Nat) (maside : Nat) (mname : Nat) (mreadName : Nat) (mkeptName : Nat) (misKept : Nat) (monces : Nat) (morder : Nat) (mordered : Nat) (mtext : Nat) (mline : Nat) (mwritten : Nat) (mnode : Nat)  : Ci l yX11_count cX11_count 2 (some .int) 0 0 0 G [.ref qm, .int w9] [(qm, .inr (10, [.int 0, .ref mtape, .int 0, .int 0, .int 0, .int 0, .int 0, .int 0, .int 0, .int 0, .int 0, .int 0, .long 0, .int 0, .ref mnow, .ref mread, .ref mkept, .ref msnaps, .ref maside, .ref mname, .ref mreadName, .ref mkeptName, .ref misKept, .ref monces, .int 0, .ref morder, .ref mordered, .int 0, .int 0, .int 0, .int (-1), .int (-1), .ref mtext, .int 0, .int 0, .ref mline, .ref mwritten, .int 0, .int 0, .ref mnode, .int 0, .int 0, .int 0, .int 0])), (mnow, eI G 339 nw0)] (fun (r9 : Int32) (u9 : va_W) => r9 = (countF w9) ∧ u9 = []) := by
  refine Ci.of (by decide) (Nat.le_of_ble_eq_true rfl) ?_
  intro p e s m below meth c ls A B hw hl
  have C : CallFix p m c cX11_count 2 s _ gw "LanternStateModel" := B.1
  have hl : lv_has ls 2 [(0, .ref qm), (1, .int w9)] := hl
  refine lv_aload_n C.1 C.2.1 dX11_count_0 rfl (lv_at hl 0 rfl) ?_
  refine lv_iconst (v := 0) C.1 C.2.1 dX11_count_1 (by decide) ?_
  refine x_put (w' := [(qm, .inr (10, [.int 0, .ref mtape, .int 0, .int 0, .int 0, .int 0, .int 0, .int 0, .int 0, .int 0, .int 0, .int 0, .long 0, .int 0, .ref mnow, .ref mread, .ref mkept, .ref msnaps, .ref maside, .ref mname, .ref mreadName, .ref mkeptName, .ref misKept, .ref monces, .int 0, .ref morder, .ref mordered, .int 0, .int 0, .int 0, .int (-1), .int (-1), .ref mtext, .int 0, .int 0, .ref mline, .ref mwritten, .int 0, .int 0, .ref mnode, .int 0, .int 0, .int 0, .int 0])), (mnow, eI G 339 nw0)]) C hw iwX11 tyX11_ok nmX11 10 rfl 0 rfl 0 (by decide) kw1197 rfl rfl rfl (Nat.le_of_ble_eq_true rfl) rfl dX11_count_2 (fun H locs hw => ?_)
  refine lv_iload_n C.1 C.2.1 dX11_count_5 rfl (lv_at hl 1 rfl) ?_
  by_cases hk1 : w9 = 0
  · skip
    subst hk1
    refine lv_tableIn (off := 42) (tgt := 48) C.1 C.2.1 dX11_count_6 (by decide) (by decide) rfl (by decide) ?_
    refine lv_aload_n C.1 C.2.1 dX11_count_48 rfl (lv_at hl 0 rfl) ?_
    refine x_get C hw iwX11 10 rfl 0 rfl 14 (by decide) kw1211 rfl dX11_count_49 ?_
    refine lv_iconst (v := 0) C.1 C.2.1 dX11_count_52 (by decide) ?_
    refine x_iald (v := 0) C hw 1 rfl (x_in rfl) nw0_0 dX11_count_53 ?_
    have hw := hw.sub (w' := []) [] rfl rfl
    exact x_reti B hw ⟨rfl, rfl⟩ (Nat.le_of_ble_eq_true rfl) (Nat.le_of_ble_eq_true rfl) dX11_count_54
  by_cases hk2 : w9 = 1
  · skip
    subst hk2
    refine lv_tableIn (off := 49) (tgt := 55) C.1 C.2.1 dX11_count_6 (by decide) (by decide) rfl (by decide) ?_
    refine lv_aload_n C.1 C.2.1 dX11_count_55 rfl (lv_at hl 0 rfl) ?_
    refine x_get C hw iwX11 10 rfl 0 rfl 14 (by decide) kw1211 rfl dX11_count_56 ?_
    refine lv_iconst (v := 1) C.1 C.2.1 dX11_count_59 (by decide) ?_
    refine x_iald (v := 0) C hw 1 rfl (x_in rfl) nw0_1 dX11_count_60 ?_
    have hw := hw.sub (w' := []) [] rfl rfl
    exact x_reti B hw ⟨rfl, rfl⟩ (Nat.le_of_ble_eq_true rfl) (Nat.le_of_ble_eq_true rfl) dX11_count_61
  by_cases hk3 : w9 = 2
  · skip
    subst hk3
    refine lv_tableIn (off := 56) (tgt := 62) C.1 C.2.1 dX11_count_6 (by decide) (by decide) rfl (by decide) ?_
    refine lv_aload_n C.1 C.2.1 dX11_count_62 rfl (lv_at hl 0 rfl) ?_
    refine x_get C hw iwX11 10 rfl 0 rfl 14 (by decide) kw1211 rfl dX11_count_63 ?_
    refine lv_iconst (v := 2) C.1 C.2.1 dX11_count_66 (by decide) ?_
    refine x_iald (v := 0) C hw 1 rfl (x_in rfl) nw0_2 dX11_count_67 ?_
    have hw := hw.sub (w' := []) [] rfl rfl
    exact x_reti B hw ⟨rfl, rfl⟩ (Nat.le_of_ble_eq_true rfl) (Nat.le_of_ble_eq_true rfl) dX11_count_68
  by_cases hk4 : w9 = 3
  · skip
    subst hk4
    refine lv_tableIn (off := 63) (tgt := 69) C.1 C.2.1 dX11_count_6 (by decide) (by decide) rfl (by decide) ?_
    refine lv_aload_n C.1 C.2.1 dX11_count_69 rfl (lv_at hl 0 rfl) ?_
    refine x_get C hw iwX11 10 rfl 0 rfl 14 (by decide) kw1211 rfl dX11_count_70 ?_
    refine lv_iconst (v := 3) C.1 C.2.1 dX11_count_73 (by decide) ?_
    refine x_iald (v := 1) C hw 1 rfl (x_in rfl) nw0_3 dX11_count_74 ?_
    have hw := hw.sub (w' := []) [] rfl rfl
    exact x_reti B hw ⟨rfl, rfl⟩ (Nat.le_of_ble_eq_true rfl) (Nat.le_of_ble_eq_true rfl) dX11_count_75
  by_cases hk5 : w9 = 4
  · skip
    subst hk5
    refine lv_tableIn (off := 70) (tgt := 76) C.1 C.2.1 dX11_count_6 (by decide) (by decide) rfl (by decide) ?_
    refine lv_aload_n C.1 C.2.1 dX11_count_76 rfl (lv_at hl 0 rfl) ?_
    refine x_get C hw iwX11 10 rfl 0 rfl 14 (by decide) kw1211 rfl dX11_count_77 ?_
    refine lv_iconst (v := 4) C.1 C.2.1 dX11_count_80 (by decide) ?_
    refine x_iald (v := 0) C hw 1 rfl (x_in rfl) nw0_4 dX11_count_81 ?_
    have hw := hw.sub (w' := []) [] rfl rfl
    exact x_reti B hw ⟨rfl, rfl⟩ (Nat.le_of_ble_eq_true rfl) (Nat.le_of_ble_eq_true rfl) dX11_count_82
  by_cases hk6 : w9 = 5
  · skip
    subst hk6
    refine lv_tableIn (off := 77) (tgt := 83) C.1 C.2.1 dX11_count_6 (by decide) (by decide) rfl (by decide) ?_
    refine lv_aload_n C.1 C.2.1 dX11_count_83 rfl (lv_at hl 0 rfl) ?_
    refine x_get C hw iwX11 10 rfl 0 rfl 14 (by decide) kw1211 rfl dX11_count_84 ?_
    refine lv_iconst (v := 5) C.1 C.2.1 dX11_count_87 (by decide) ?_
    refine x_iald (v := 40) C hw 1 rfl (x_in rfl) nw0_5 dX11_count_88 ?_
    have hw := hw.sub (w' := []) [] rfl rfl
    exact x_reti B hw ⟨rfl, rfl⟩ (Nat.le_of_ble_eq_true rfl) (Nat.le_of_ble_eq_true rfl) dX11_count_89
  by_cases hk7 : w9 = 6
  · skip
    subst hk7
    refine lv_tableIn (off := 84) (tgt := 90) C.1 C.2.1 dX11_count_6 (by decide) (by decide) rfl (by decide) ?_
    refine lv_aload_n C.1 C.2.1 dX11_count_90 rfl (lv_at hl 0 rfl) ?_
    refine x_get C hw iwX11 10 rfl 0 rfl 2 (by decide) kw1199 rfl dX11_count_91 ?_
    have hw := hw.sub (w' := []) [] rfl rfl
    exact x_reti B hw ⟨rfl, rfl⟩ (Nat.le_of_ble_eq_true rfl) (Nat.le_of_ble_eq_true rfl) dX11_count_94
  refine lv_tableOut (tgt := 95) C.1 C.2.1 dX11_count_6 (by have t0 := x_ne hk1 (z := 0) rfl; have t1 := x_ne hk2 (z := 1) rfl; have t2 := x_ne hk3 (z := 2) rfl; have t3 := x_ne hk4 (z := 3) rfl; have t4 := x_ne hk5 (z := 4) rfl; have t5 := x_ne hk6 (z := 5) rfl; have t6 := x_ne hk7 (z := 6) rfl; omega) (by decide) ?_
  refine lv_iconst (v := (-1)) C.1 C.2.1 dX11_count_95 (by decide) ?_
  have hw := hw.sub (w' := []) [] rfl rfl
  exact x_reti B hw ⟨(by unfold countF; rw [if_neg hk1, if_neg hk2, if_neg hk3, if_neg hk4, if_neg hk5, if_neg hk6, if_neg hk7]), rfl⟩ (Nat.le_of_ble_eq_true rfl) (Nat.le_of_ble_eq_true rfl) dX11_count_96
theorem dX11_undo_0 : decode cX11_undo 0 = .ok (.aload_n 0, 1) := by decide +kernel
theorem dX11_undo_1 : decode cX11_undo 1 = .ok (.iconst 0, 1) := by decide +kernel
theorem dX11_undo_2 : decode cX11_undo 2 = .ok (.putfield 1, 3) := by decide +kernel
theorem dX11_undo_5 : decode cX11_undo 5 = .ok (.aload_n 0, 1) := by decide +kernel
theorem dX11_undo_6 : decode cX11_undo 6 = .ok (.getfield 231, 3) := by decide +kernel
theorem dX11_undo_9 : decode cX11_undo 9 = .ok (.ifCond .ne 5, 3) := by decide +kernel
theorem dX11_undo_12 : decode cX11_undo 12 = .ok (.iconst (-1), 1) := by decide +kernel
theorem dX11_undo_13 : decode cX11_undo 13 = .ok (.ireturn, 1) := by decide +kernel
set_option maxHeartbeats 4000000 in
set_option maxRecDepth 100000 in
theorem c_X11_undo {l : Launch} {G : Gc} (qm : Nat) (mtape : Nat) (mnow : Nat) (mread : Nat) (mkept : Nat) (msnaps : Nat) (maside : Nat) (mname : Nat) (mreadName : Nat) (mkeptName : Nat) (misKept : Nat) (monces : Nat) (morder : Nat) (mordered : Nat) (mtext : Nat) (mline : Nat) (mwritten : Nat) (mnode : Nat)  : Ci l yX11_undo cX11_undo 2 (some .int) 0 0 0 G [.ref qm] [(qm, .inr (10, [.int 0, .ref mtape, .int 0, .int 0, .int 0, .int 0, .int 0, .int 0, .int 0, .int 0, .int 0, .int 0, .long 0, .int 0, .ref mnow, .ref mread, .ref mkept, .ref msnaps, .ref maside, .ref mname, .ref mreadName, .ref mkeptName, .ref misKept, .ref monces, .int 0, .ref morder, .ref mordered, .int 0, .int 0, .int 0, .int (-1), .int (-1), .ref mtext, .int 0, .int 0, .ref mline, .ref mwritten, .int 0, .int 0, .ref mnode, .int 0, .int 0, .int 0, .int 0]))] (fun (r9 : Int32) (u9 : va_W) => r9 = (-1) ∧ u9 = []) := by
  refine Ci.of (by decide) (Nat.le_of_ble_eq_true rfl) ?_
  intro p e s m below meth c ls A B hw hl
  have C : CallFix p m c cX11_undo 2 s _ gw "LanternStateModel" := B.1
  have hl : lv_has ls 2 [(0, .ref qm)] := hl
  refine lv_aload_n C.1 C.2.1 dX11_undo_0 rfl (lv_at hl 0 rfl) ?_
  refine lv_iconst (v := 0) C.1 C.2.1 dX11_undo_1 (by decide) ?_
  refine x_put (w' := [(qm, .inr (10, [.int 0, .ref mtape, .int 0, .int 0, .int 0, .int 0, .int 0, .int 0, .int 0, .int 0, .int 0, .int 0, .long 0, .int 0, .ref mnow, .ref mread, .ref mkept, .ref msnaps, .ref maside, .ref mname, .ref mreadName, .ref mkeptName, .ref misKept, .ref monces, .int 0, .ref morder, .ref mordered, .int 0, .int 0, .int 0, .int (-1), .int (-1), .ref mtext, .int 0, .int 0, .ref mline, .ref mwritten, .int 0, .int 0, .ref mnode, .int 0, .int 0, .int 0, .int 0]))]) C hw iwX11 tyX11_ok nmX11 10 rfl 0 rfl 0 (by decide) kw1197 rfl rfl rfl (Nat.le_of_ble_eq_true rfl) rfl dX11_undo_2 (fun H locs hw => ?_)
  refine lv_aload_n C.1 C.2.1 dX11_undo_5 rfl (lv_at hl 0 rfl) ?_
  refine x_get C hw iwX11 10 rfl 0 rfl 24 (by decide) kw1221 rfl dX11_undo_6 ?_
  refine lv_if_ne (tgt := 14) C.1 C.2.1 dX11_undo_9 (by decide) (fun h9 => absurd (by decide) h9) (fun _ => ?_)
  refine lv_iconst (v := (-1)) C.1 C.2.1 dX11_undo_12 (by decide) ?_
  have hw := hw.sub (w' := []) [] rfl rfl
  exact x_reti B hw ⟨rfl, rfl⟩ (Nat.le_of_ble_eq_true rfl) (Nat.le_of_ble_eq_true rfl) dX11_undo_13
theorem dX11_spreadFrom_0 : decode cX11_spreadFrom 0 = .ok (.iload_n 1, 1) := by decide +kernel
theorem dX11_spreadFrom_1 : decode cX11_spreadFrom 1 = .ok (.istore_n 2, 1) := by decide +kernel
theorem dX11_spreadFrom_2 : decode cX11_spreadFrom 2 = .ok (.aload_n 0, 1) := by decide +kernel
theorem dX11_spreadFrom_3 : decode cX11_spreadFrom 3 = .ok (.getfield 98, 3) := by decide +kernel
theorem dX11_spreadFrom_6 : decode cX11_spreadFrom 6 = .ok (.iconst 4, 1) := by decide +kernel
theorem dX11_spreadFrom_7 : decode cX11_spreadFrom 7 = .ok (.iaload, 1) := by decide +kernel
theorem dX11_spreadFrom_8 : decode cX11_spreadFrom 8 = .ok (.ifCond .le 7, 3) := by decide +kernel
theorem dX11_spreadFrom_15 : decode cX11_spreadFrom 15 = .ok (.iconst 0, 1) := by decide +kernel
theorem dX11_spreadFrom_16 : decode cX11_spreadFrom 16 = .ok (.istore_n 3, 1) := by decide +kernel
theorem dX11_spreadFrom_17 : decode cX11_spreadFrom 17 = .ok (.iload_n 3, 1) := by decide +kernel
theorem dX11_spreadFrom_18 : decode cX11_spreadFrom 18 = .ok (.ifCond .eq 73, 3) := by decide +kernel
theorem dX11_spreadFrom_91 : decode cX11_spreadFrom 91 = .ok (.iload_n 2, 1) := by decide +kernel
theorem dX11_spreadFrom_92 : decode cX11_spreadFrom 92 = .ok (.ireturn, 1) := by decide +kernel
set_option maxHeartbeats 4000000 in
set_option maxRecDepth 100000 in
theorem c_X11_spreadFrom {l : Launch} {G : Gc} (qm : Nat) (w9 : Int32) (mtape : Nat) (mnow : Nat) (mread : Nat) (mkept : Nat) (msnaps : Nat) (maside : Nat) (mname : Nat) (mreadName : Nat) (mkeptName : Nat) (misKept : Nat) (monces : Nat) (morder : Nat) (mordered : Nat) (mtext : Nat) (mline : Nat) (mwritten : Nat) (mnode : Nat)  : Ci l yX11_spreadFrom cX11_spreadFrom 6 (some .int) 0 0 0 G [.ref qm, .int w9] [(qm, .inr (10, [.int 0, .ref mtape, .int 0, .int 0, .int 0, .int 0, .int 0, .int 0, .int 0, .int 0, .int 0, .int 0, .long 0, .int 0, .ref mnow, .ref mread, .ref mkept, .ref msnaps, .ref maside, .ref mname, .ref mreadName, .ref mkeptName, .ref misKept, .ref monces, .int 0, .ref morder, .ref mordered, .int 0, .int 0, .int 0, .int (-1), .int (-1), .ref mtext, .int 0, .int 0, .ref mline, .ref mwritten, .int 0, .int 0, .ref mnode, .int 0, .int 0, .int 0, .int 0])), (mnow, eI G 339 nw0)] (fun (r9 : Int32) (u9 : va_W) => r9 = w9 ∧ u9 = [(qm, .inr (10, [.int 0, .ref mtape, .int 0, .int 0, .int 0, .int 0, .int 0, .int 0, .int 0, .int 0, .int 0, .int 0, .long 0, .int 0, .ref mnow, .ref mread, .ref mkept, .ref msnaps, .ref maside, .ref mname, .ref mreadName, .ref mkeptName, .ref misKept, .ref monces, .int 0, .ref morder, .ref mordered, .int 0, .int 0, .int 0, .int (-1), .int (-1), .ref mtext, .int 0, .int 0, .ref mline, .ref mwritten, .int 0, .int 0, .ref mnode, .int 0, .int 0, .int 0, .int 0])), (mnow, eI G 339 nw0)]) := by
  refine Ci.of (by decide) (Nat.le_of_ble_eq_true rfl) ?_
  intro p e s m below meth c ls A B hw hl
  have C : CallFix p m c cX11_spreadFrom 6 s _ gw "LanternStateModel" := B.1
  have hl : lv_has ls 6 [(0, .ref qm), (1, .int w9)] := hl
  refine lv_iload_n C.1 C.2.1 dX11_spreadFrom_0 rfl (lv_at hl 1 rfl) ?_
  refine lv_istore_n (lv' := [(2, .int w9), (0, .ref qm), (1, .int w9)]) C.1 C.2.1 dX11_spreadFrom_1 rfl hl (by decide) rfl (fun ls hl => ?_)
  refine lv_aload_n C.1 C.2.1 dX11_spreadFrom_2 rfl (lv_at hl 1 rfl) ?_
  refine x_get C hw iwX11 10 rfl 0 rfl 14 (by decide) kw1211 rfl dX11_spreadFrom_3 ?_
  refine lv_iconst (v := 4) C.1 C.2.1 dX11_spreadFrom_6 (by decide) ?_
  refine x_iald (v := 0) C hw 1 rfl (x_in rfl) nw0_4 dX11_spreadFrom_7 ?_
  refine lv_if_le (tgt := 15) C.1 C.2.1 dX11_spreadFrom_8 (by decide) (fun _ => ?_) (fun h9 => absurd (by decide) h9)
  refine lv_iconst (v := 0) C.1 C.2.1 dX11_spreadFrom_15 (by decide) ?_
  refine lv_istore_n (lv' := [(3, .int 0), (2, .int w9), (0, .ref qm), (1, .int w9)]) C.1 C.2.1 dX11_spreadFrom_16 rfl hl (by decide) rfl (fun ls hl => ?_)
  refine lv_iload_n C.1 C.2.1 dX11_spreadFrom_17 rfl (lv_at hl 0 rfl) ?_
  refine lv_if_eq (tgt := 91) C.1 C.2.1 dX11_spreadFrom_18 (by decide) (fun _ => ?_) (fun h9 => absurd (by decide) h9)
  refine lv_iload_n C.1 C.2.1 dX11_spreadFrom_91 rfl (lv_at hl 1 rfl) ?_
  exact x_reti B hw ⟨rfl, rfl⟩ (Nat.le_of_ble_eq_true rfl) (Nat.le_of_ble_eq_true rfl) dX11_spreadFrom_92
theorem dX11_spreads_0 : decode cX11_spreads 0 = .ok (.aload_n 0, 1) := by decide +kernel
theorem dX11_spreads_1 : decode cX11_spreads 1 = .ok (.iconst 0, 1) := by decide +kernel
theorem dX11_spreads_2 : decode cX11_spreads 2 = .ok (.putfield 1, 3) := by decide +kernel
theorem dX11_spreads_5 : decode cX11_spreads 5 = .ok (.iload_n 1, 1) := by decide +kernel
theorem dX11_spreads_6 : decode cX11_spreads 6 = .ok (.ifCond .lt 15, 3) := by decide +kernel
theorem dX11_spreads_9 : decode cX11_spreads 9 = .ok (.iload_n 1, 1) := by decide +kernel
theorem dX11_spreads_10 : decode cX11_spreads 10 = .ok (.iconst 1, 1) := by decide +kernel
theorem dX11_spreads_11 : decode cX11_spreads 11 = .ok (.aload_n 0, 1) := by decide +kernel
theorem dX11_spreads_12 : decode cX11_spreads 12 = .ok (.getfield 98, 3) := by decide +kernel
theorem dX11_spreads_15 : decode cX11_spreads 15 = .ok (.iconst 1, 1) := by decide +kernel
theorem dX11_spreads_16 : decode cX11_spreads 16 = .ok (.iaload, 1) := by decide +kernel
theorem dX11_spreads_17 : decode cX11_spreads 17 = .ok (.ishl, 1) := by decide +kernel
theorem dX11_spreads_18 : decode cX11_spreads 18 = .ok (.if_icmp .lt 7, 3) := by decide +kernel
theorem dX11_spreads_25 : decode cX11_spreads 25 = .ok (.aload_n 0, 1) := by decide +kernel
theorem dX11_spreads_26 : decode cX11_spreads 26 = .ok (.iload_n 1, 1) := by decide +kernel
theorem dX11_spreads_27 : decode cX11_spreads 27 = .ok (.invokevirtual 270, 3) := by decide +kernel
theorem mwX11_spreadFrom : MwV yX11_spreadFrom cX11_spreadFrom 6 (some .int) 1 := ⟨⟨kw1544, kw15, by decide +kernel⟩, kw1543, kS80⟩
theorem dX11_spreads_30 : decode cX11_spreads 30 = .ok (.ireturn, 1) := by decide +kernel
set_option maxHeartbeats 4000000 in
set_option maxRecDepth 100000 in
theorem c_X11_spreads__0 {l : Launch} {G : Gc} (qm : Nat) (mtape : Nat) (mnow : Nat) (mread : Nat) (mkept : Nat) (msnaps : Nat) (maside : Nat) (mname : Nat) (mreadName : Nat) (mkeptName : Nat) (misKept : Nat) (monces : Nat) (morder : Nat) (mordered : Nat) (mtext : Nat) (mline : Nat) (mwritten : Nat) (mnode : Nat)  : Ci l yX11_spreads cX11_spreads 2 (some .int) 1 0 0 G [.ref qm, .int 0] [(qm, .inr (10, [.int 0, .ref mtape, .int 0, .int 0, .int 0, .int 0, .int 0, .int 0, .int 0, .int 0, .int 0, .int 0, .long 0, .int 0, .ref mnow, .ref mread, .ref mkept, .ref msnaps, .ref maside, .ref mname, .ref mreadName, .ref mkeptName, .ref misKept, .ref monces, .int 0, .ref morder, .ref mordered, .int 0, .int 0, .int 0, .int (-1), .int (-1), .ref mtext, .int 0, .int 0, .ref mline, .ref mwritten, .int 0, .int 0, .ref mnode, .int 0, .int 0, .int 0, .int 0])), (mnow, eI G 339 nw0)] (fun (r9 : Int32) (u9 : va_W) => r9 = 0 ∧ u9 = []) := by
  refine Ci.of (by decide) (Nat.le_of_ble_eq_true rfl) ?_
  intro p e s m below meth c ls A B hw hl
  have C : CallFix p m c cX11_spreads 2 s _ gw "LanternStateModel" := B.1
  have hl : lv_has ls 2 [(0, .ref qm), (1, .int 0)] := hl
  refine lv_aload_n C.1 C.2.1 dX11_spreads_0 rfl (lv_at hl 0 rfl) ?_
  refine lv_iconst (v := 0) C.1 C.2.1 dX11_spreads_1 (by decide) ?_
  refine x_put (w' := [(qm, .inr (10, [.int 0, .ref mtape, .int 0, .int 0, .int 0, .int 0, .int 0, .int 0, .int 0, .int 0, .int 0, .int 0, .long 0, .int 0, .ref mnow, .ref mread, .ref mkept, .ref msnaps, .ref maside, .ref mname, .ref mreadName, .ref mkeptName, .ref misKept, .ref monces, .int 0, .ref morder, .ref mordered, .int 0, .int 0, .int 0, .int (-1), .int (-1), .ref mtext, .int 0, .int 0, .ref mline, .ref mwritten, .int 0, .int 0, .ref mnode, .int 0, .int 0, .int 0, .int 0])), (mnow, eI G 339 nw0)]) C hw iwX11 tyX11_ok nmX11 10 rfl 0 rfl 0 (by decide) kw1197 rfl rfl rfl (Nat.le_of_ble_eq_true rfl) rfl dX11_spreads_2 (fun H locs hw => ?_)
  refine lv_iload_n C.1 C.2.1 dX11_spreads_5 rfl (lv_at hl 1 rfl) ?_
  refine lv_if_lt (tgt := 21) C.1 C.2.1 dX11_spreads_6 (by decide) (fun h9 => absurd h9 (by decide)) (fun _ => ?_)
  refine lv_iload_n C.1 C.2.1 dX11_spreads_9 rfl (lv_at hl 1 rfl) ?_
  refine lv_iconst (v := 1) C.1 C.2.1 dX11_spreads_10 (by decide) ?_
  refine lv_aload_n C.1 C.2.1 dX11_spreads_11 rfl (lv_at hl 0 rfl) ?_
  refine x_get C hw iwX11 10 rfl 0 rfl 14 (by decide) kw1211 rfl dX11_spreads_12 ?_
  refine lv_iconst (v := 1) C.1 C.2.1 dX11_spreads_15 (by decide) ?_
  refine x_iald (v := 0) C hw 1 rfl (x_in rfl) nw0_1 dX11_spreads_16 ?_
  refine lv_ishl C.1 C.2.1 dX11_spreads_17 ?_
  refine x_topi (z := 1) (by decide) ?_
  refine lv_icmp_lt (tgt := 25) C.1 C.2.1 dX11_spreads_18 (by decide) (fun _ => ?_) (fun h9 => absurd (by decide) h9)
  refine lv_aload_n C.1 C.2.1 dX11_spreads_25 rfl (lv_at hl 0 rfl) ?_
  refine lv_iload_n C.1 C.2.1 dX11_spreads_26 rfl (lv_at hl 1 rfl) ?_
  refine x_calliV (As := [.int 0]) (rest := []) (wr := []) C hw (c_X11_spreadFrom qm 0 mtape mnow mread mkept msnaps maside mname mreadName mkeptName misKept monces morder mordered mtext mline mwritten mnode) mwX11_spreadFrom kw1541 [0, 1] [] rfl rfl rfl rfl (by decide) 0 rfl rfl rfl rfl hl.1 rfl (Nat.le_of_ble_eq_true rfl) ⟨(Nat.le_of_ble_eq_true rfl), (Nat.le_of_ble_eq_true rfl)⟩ ⟨(Nat.le_of_ble_eq_true rfl), (Nat.le_of_ble_eq_true rfl)⟩ dX11_spreads_27 (fun r1 u9 H locs hp9 hw => ?_)
  obtain ⟨rfl, rfl⟩ := hp9
  have hw : Wd G s A [(qm, .inr (10, [.int 0, .ref mtape, .int 0, .int 0, .int 0, .int 0, .int 0, .int 0, .int 0, .int 0, .int 0, .int 0, .long 0, .int 0, .ref mnow, .ref mread, .ref mkept, .ref msnaps, .ref maside, .ref mname, .ref mreadName, .ref mkeptName, .ref misKept, .ref monces, .int 0, .ref morder, .ref mordered, .int 0, .int 0, .int 0, .int (-1), .int (-1), .ref mtext, .int 0, .int 0, .ref mline, .ref mwritten, .int 0, .int 0, .ref mnode, .int 0, .int 0, .int 0, .int 0])), (mnow, eI G 339 nw0)] H _ := hw
  have hw := hw.sub (w' := []) [] rfl rfl
  exact x_reti B hw ⟨rfl, rfl⟩ (Nat.le_of_ble_eq_true rfl) (Nat.le_of_ble_eq_true rfl) dX11_spreads_30
theorem dX11_spreads_21 : decode cX11_spreads 21 = .ok (.iconst (-1), 1) := by decide +kernel
theorem dX11_spreads_22 : decode cX11_spreads 22 = .ok (.goto 8, 3) := by decide +kernel
set_option maxHeartbeats 4000000 in
set_option maxRecDepth 100000 in
theorem c_X11_spreads__N {l : Launch} {G : Gc} (qm : Nat) (a1 : Int32) (mtape : Nat) (mnow : Nat) (mread : Nat) (mkept : Nat) (msnaps : Nat) (maside : Nat) (mname : Nat) (mreadName : Nat) (mkeptName : Nat) (misKept : Nat) (monces : Nat) (morder : Nat) (mordered : Nat) (mtext : Nat) (mline : Nat) (mwritten : Nat) (mnode : Nat) (hn : ¬ a1 = 0) : Ci l yX11_spreads cX11_spreads 2 (some .int) 1 0 0 G [.ref qm, .int a1] [(qm, .inr (10, [.int 0, .ref mtape, .int 0, .int 0, .int 0, .int 0, .int 0, .int 0, .int 0, .int 0, .int 0, .int 0, .long 0, .int 0, .ref mnow, .ref mread, .ref mkept, .ref msnaps, .ref maside, .ref mname, .ref mreadName, .ref mkeptName, .ref misKept, .ref monces, .int 0, .ref morder, .ref mordered, .int 0, .int 0, .int 0, .int (-1), .int (-1), .ref mtext, .int 0, .int 0, .ref mline, .ref mwritten, .int 0, .int 0, .ref mnode, .int 0, .int 0, .int 0, .int 0])), (mnow, eI G 339 nw0)] (fun (r9 : Int32) (u9 : va_W) => r9 = (-1) ∧ u9 = []) := by
  refine Ci.of (by decide) (Nat.le_of_ble_eq_true rfl) ?_
  intro p e s m below meth c ls A B hw hl
  have C : CallFix p m c cX11_spreads 2 s _ gw "LanternStateModel" := B.1
  have hl : lv_has ls 2 [(0, .ref qm), (1, .int a1)] := hl
  refine lv_aload_n C.1 C.2.1 dX11_spreads_0 rfl (lv_at hl 0 rfl) ?_
  refine lv_iconst (v := 0) C.1 C.2.1 dX11_spreads_1 (by decide) ?_
  refine x_put (w' := [(qm, .inr (10, [.int 0, .ref mtape, .int 0, .int 0, .int 0, .int 0, .int 0, .int 0, .int 0, .int 0, .int 0, .int 0, .long 0, .int 0, .ref mnow, .ref mread, .ref mkept, .ref msnaps, .ref maside, .ref mname, .ref mreadName, .ref mkeptName, .ref misKept, .ref monces, .int 0, .ref morder, .ref mordered, .int 0, .int 0, .int 0, .int (-1), .int (-1), .ref mtext, .int 0, .int 0, .ref mline, .ref mwritten, .int 0, .int 0, .ref mnode, .int 0, .int 0, .int 0, .int 0])), (mnow, eI G 339 nw0)]) C hw iwX11 tyX11_ok nmX11 10 rfl 0 rfl 0 (by decide) kw1197 rfl rfl rfl (Nat.le_of_ble_eq_true rfl) rfl dX11_spreads_2 (fun H locs hw => ?_)
  refine lv_iload_n C.1 C.2.1 dX11_spreads_5 rfl (lv_at hl 1 rfl) ?_
  refine lv_if_lt (tgt := 21) C.1 C.2.1 dX11_spreads_6 (by decide) (fun c_6 => ?_) (fun c_6 => ?_)
  · skip
    refine lv_iconst (v := (-1)) C.1 C.2.1 dX11_spreads_21 (by decide) ?_
    refine lv_goto (tgt := 30) C.1 C.2.1 dX11_spreads_22 (by decide) ?_
    have hw := hw.sub (w' := []) [] rfl rfl
    exact x_reti B hw ⟨rfl, rfl⟩ (Nat.le_of_ble_eq_true rfl) (Nat.le_of_ble_eq_true rfl) dX11_spreads_30
  · skip
    refine lv_iload_n C.1 C.2.1 dX11_spreads_9 rfl (lv_at hl 1 rfl) ?_
    refine lv_iconst (v := 1) C.1 C.2.1 dX11_spreads_10 (by decide) ?_
    refine lv_aload_n C.1 C.2.1 dX11_spreads_11 rfl (lv_at hl 0 rfl) ?_
    refine x_get C hw iwX11 10 rfl 0 rfl 14 (by decide) kw1211 rfl dX11_spreads_12 ?_
    refine lv_iconst (v := 1) C.1 C.2.1 dX11_spreads_15 (by decide) ?_
    refine x_iald (v := 0) C hw 1 rfl (x_in rfl) nw0_1 dX11_spreads_16 ?_
    refine lv_ishl C.1 C.2.1 dX11_spreads_17 ?_
    refine x_topi (z := 1) (by decide) ?_
    refine lv_icmp_lt (tgt := 25) C.1 C.2.1 dX11_spreads_18 (by decide) (fun h9 => absurd h9 (x_ge1 c_6 hn)) (fun _ => ?_)
    refine lv_iconst (v := (-1)) C.1 C.2.1 dX11_spreads_21 (by decide) ?_
    refine lv_goto (tgt := 30) C.1 C.2.1 dX11_spreads_22 (by decide) ?_
    have hw := hw.sub (w' := []) [] rfl rfl
    exact x_reti B hw ⟨rfl, rfl⟩ (Nat.le_of_ble_eq_true rfl) (Nat.le_of_ble_eq_true rfl) dX11_spreads_30
theorem dX11_endOrder_0 : decode cX11_endOrder 0 = .ok (.iload_n 2, 1) := by decide +kernel
theorem dX11_endOrder_1 : decode cX11_endOrder 1 = .ok (.aload_n 0, 1) := by decide +kernel
theorem dX11_endOrder_2 : decode cX11_endOrder 2 = .ok (.getfield 307, 3) := by decide +kernel
theorem dX11_endOrder_5 : decode cX11_endOrder 5 = .ok (.if_icmp .gt 4, 3) := by decide +kernel
theorem dX11_endOrder_9 : decode cX11_endOrder 9 = .ok (.aload_n 0, 1) := by decide +kernel
theorem dX11_endOrder_10 : decode cX11_endOrder 10 = .ok (.iload_n 2, 1) := by decide +kernel
theorem dX11_endOrder_11 : decode cX11_endOrder 11 = .ok (.putfield 307, 3) := by decide +kernel
theorem dX11_endOrder_14 : decode cX11_endOrder 14 = .ok (.aload_n 0, 1) := by decide +kernel
theorem dX11_endOrder_15 : decode cX11_endOrder 15 = .ok (.iload_n 1, 1) := by decide +kernel
theorem dX11_endOrder_16 : decode cX11_endOrder 16 = .ok (.putfield 310, 3) := by decide +kernel
theorem dX11_endOrder_19 : decode cX11_endOrder 19 = .ok (.iconst 0, 1) := by decide +kernel
theorem dX11_endOrder_20 : decode cX11_endOrder 20 = .ok (.istore_n 3, 1) := by decide +kernel
theorem dX11_endOrder_21 : decode cX11_endOrder 21 = .ok (.iload_n 3, 1) := by decide +kernel
theorem dX11_endOrder_22 : decode cX11_endOrder 22 = .ok (.iload_n 1, 1) := by decide +kernel
theorem dX11_endOrder_23 : decode cX11_endOrder 23 = .ok (.if_icmp .ge 21, 3) := by decide +kernel
theorem dX11_endOrder_44 : decode cX11_endOrder 44 = .ok (.return_, 1) := by decide +kernel
set_option maxHeartbeats 4000000 in
set_option maxRecDepth 100000 in
theorem c_X11_endOrder {l : Launch} {G : Gc} (qm : Nat) (mtape : Nat) (mnow : Nat) (mread : Nat) (mkept : Nat) (msnaps : Nat) (maside : Nat) (mname : Nat) (mreadName : Nat) (mkeptName : Nat) (misKept : Nat) (monces : Nat) (morder : Nat) (mordered : Nat) (mtext : Nat) (mline : Nat) (mwritten : Nat) (mnode : Nat)  : Cv l yX11_endOrder cX11_endOrder 4 0 0 0 G [.ref qm, .int 0, .int 0] [(qm, .inr (10, [.int 0, .ref mtape, .int 0, .int 0, .int 0, .int 0, .int 0, .int 0, .int 0, .int 0, .int 0, .int 0, .long 0, .int 0, .ref mnow, .ref mread, .ref mkept, .ref msnaps, .ref maside, .ref mname, .ref mreadName, .ref mkeptName, .ref misKept, .ref monces, .int 0, .ref morder, .ref mordered, .int 0, .int (-1), .int 0, .int (-1), .int (-1), .ref mtext, .int 0, .int 0, .ref mline, .ref mwritten, .int 0, .int 0, .ref mnode, .int 0, .int 0, .int 0, .int 0]))] (fun (u9 : va_W) => u9 = [(qm, .inr (10, [.int 0, .ref mtape, .int 0, .int 0, .int 0, .int 0, .int 0, .int 0, .int 0, .int 0, .int 0, .int 0, .long 0, .int 0, .ref mnow, .ref mread, .ref mkept, .ref msnaps, .ref maside, .ref mname, .ref mreadName, .ref mkeptName, .ref misKept, .ref monces, .int 0, .ref morder, .ref mordered, .int 0, .int 0, .int 0, .int (-1), .int (-1), .ref mtext, .int 0, .int 0, .ref mline, .ref mwritten, .int 0, .int 0, .ref mnode, .int 0, .int 0, .int 0, .int 0]))]) := by
  refine Cv.of (by decide) (Nat.le_of_ble_eq_true rfl) ?_
  intro p e s m below meth c ls A B hw hl
  have C : CallFix p m c cX11_endOrder 4 s _ gw "LanternStateModel" := B.1
  have hl : lv_has ls 4 [(0, .ref qm), (1, .int 0), (2, .int 0)] := hl
  refine lv_iload_n C.1 C.2.1 dX11_endOrder_0 rfl (lv_at hl 2 rfl) ?_
  refine lv_aload_n C.1 C.2.1 dX11_endOrder_1 rfl (lv_at hl 0 rfl) ?_
  refine x_get C hw iwX11 10 rfl 0 rfl 28 (by decide) kw1225 rfl dX11_endOrder_2 ?_
  refine lv_icmp_gt (tgt := 9) C.1 C.2.1 dX11_endOrder_5 (by decide) (fun _ => ?_) (fun h9 => absurd (by decide) h9)
  refine lv_aload_n C.1 C.2.1 dX11_endOrder_9 rfl (lv_at hl 0 rfl) ?_
  refine lv_iload_n C.1 C.2.1 dX11_endOrder_10 rfl (lv_at hl 2 rfl) ?_
  refine x_put (w' := [(qm, .inr (10, [.int 0, .ref mtape, .int 0, .int 0, .int 0, .int 0, .int 0, .int 0, .int 0, .int 0, .int 0, .int 0, .long 0, .int 0, .ref mnow, .ref mread, .ref mkept, .ref msnaps, .ref maside, .ref mname, .ref mreadName, .ref mkeptName, .ref misKept, .ref monces, .int 0, .ref morder, .ref mordered, .int 0, .int 0, .int 0, .int (-1), .int (-1), .ref mtext, .int 0, .int 0, .ref mline, .ref mwritten, .int 0, .int 0, .ref mnode, .int 0, .int 0, .int 0, .int 0]))]) C hw iwX11 tyX11_ok nmX11 10 rfl 0 rfl 28 (by decide) kw1225 rfl rfl rfl (Nat.le_of_ble_eq_true rfl) rfl dX11_endOrder_11 (fun H locs hw => ?_)
  refine lv_aload_n C.1 C.2.1 dX11_endOrder_14 rfl (lv_at hl 0 rfl) ?_
  refine lv_iload_n C.1 C.2.1 dX11_endOrder_15 rfl (lv_at hl 1 rfl) ?_
  refine x_put (w' := [(qm, .inr (10, [.int 0, .ref mtape, .int 0, .int 0, .int 0, .int 0, .int 0, .int 0, .int 0, .int 0, .int 0, .int 0, .long 0, .int 0, .ref mnow, .ref mread, .ref mkept, .ref msnaps, .ref maside, .ref mname, .ref mreadName, .ref mkeptName, .ref misKept, .ref monces, .int 0, .ref morder, .ref mordered, .int 0, .int 0, .int 0, .int (-1), .int (-1), .ref mtext, .int 0, .int 0, .ref mline, .ref mwritten, .int 0, .int 0, .ref mnode, .int 0, .int 0, .int 0, .int 0]))]) C hw iwX11 tyX11_ok nmX11 10 rfl 0 rfl 27 (by decide) kw1224 rfl rfl rfl (Nat.le_of_ble_eq_true rfl) rfl dX11_endOrder_16 (fun H locs hw => ?_)
  refine lv_iconst (v := 0) C.1 C.2.1 dX11_endOrder_19 (by decide) ?_
  refine lv_istore_n (lv' := [(3, .int 0), (0, .ref qm), (1, .int 0), (2, .int 0)]) C.1 C.2.1 dX11_endOrder_20 rfl hl (by decide) rfl (fun ls hl => ?_)
  refine lv_iload_n C.1 C.2.1 dX11_endOrder_21 rfl (lv_at hl 0 rfl) ?_
  refine lv_iload_n C.1 C.2.1 dX11_endOrder_22 rfl (lv_at hl 2 rfl) ?_
  refine lv_icmp_ge (tgt := 44) C.1 C.2.1 dX11_endOrder_23 (by decide) (fun _ => ?_) (fun h9 => absurd (by decide) h9)
  exact x_retv B hw rfl (Nat.le_of_ble_eq_true rfl) (Nat.le_of_ble_eq_true rfl) dX11_endOrder_44
theorem dX11_orderFrom_0 : decode cX11_orderFrom 0 = .ok (.iconst 0, 1) := by decide +kernel
theorem dX11_orderFrom_1 : decode cX11_orderFrom 1 = .ok (.istore 6, 2) := by decide +kernel
theorem dX11_orderFrom_3 : decode cX11_orderFrom 3 = .ok (.iconst 0, 1) := by decide +kernel
theorem dX11_orderFrom_4 : decode cX11_orderFrom 4 = .ok (.istore 7, 2) := by decide +kernel
theorem dX11_orderFrom_6 : decode cX11_orderFrom 6 = .ok (.iload 7, 2) := by decide +kernel
theorem dX11_orderFrom_8 : decode cX11_orderFrom 8 = .ok (.aload_n 0, 1) := by decide +kernel
theorem dX11_orderFrom_9 : decode cX11_orderFrom 9 = .ok (.getfield 98, 3) := by decide +kernel
theorem dX11_orderFrom_12 : decode cX11_orderFrom 12 = .ok (.iconst 0, 1) := by decide +kernel
theorem dX11_orderFrom_13 : decode cX11_orderFrom 13 = .ok (.iaload, 1) := by decide +kernel
theorem dX11_orderFrom_14 : decode cX11_orderFrom 14 = .ok (.if_icmp .ge 162, 3) := by decide +kernel
theorem dX11_orderFrom_176 : decode cX11_orderFrom 176 = .ok (.iload 6, 2) := by decide +kernel
theorem dX11_orderFrom_178 : decode cX11_orderFrom 178 = .ok (.ifCond .ne 10, 3) := by decide +kernel
theorem dX11_orderFrom_181 : decode cX11_orderFrom 181 = .ok (.aload_n 0, 1) := by decide +kernel
theorem dX11_orderFrom_182 : decode cX11_orderFrom 182 = .ok (.iload_n 1, 1) := by decide +kernel
theorem dX11_orderFrom_183 : decode cX11_orderFrom 183 = .ok (.iload 5, 2) := by decide +kernel
theorem dX11_orderFrom_185 : decode cX11_orderFrom 185 = .ok (.invokevirtual 313, 3) := by decide +kernel
theorem mwX11_endOrder : MwV yX11_endOrder cX11_endOrder 4 none 2 := ⟨⟨kw1619, kw15, by decide +kernel⟩, kw1618, kS89⟩
theorem dX11_orderFrom_188 : decode cX11_orderFrom 188 = .ok (.return_, 1) := by decide +kernel
set_option maxHeartbeats 4000000 in
set_option maxRecDepth 100000 in
theorem c_X11_orderFrom {l : Launch} {G : Gc} (qm : Nat) (mtape : Nat) (mnow : Nat) (mread : Nat) (mkept : Nat) (msnaps : Nat) (maside : Nat) (mname : Nat) (mreadName : Nat) (mkeptName : Nat) (misKept : Nat) (monces : Nat) (morder : Nat) (mordered : Nat) (mtext : Nat) (mline : Nat) (mwritten : Nat) (mnode : Nat)  : Cv l yX11_orderFrom cX11_orderFrom 10 1 0 0 G [.ref qm, .int 0, .int 0, .int 0, .int 0, .int 0] [(qm, .inr (10, [.int 0, .ref mtape, .int 0, .int 0, .int 0, .int 0, .int 0, .int 0, .int 0, .int 0, .int 0, .int 0, .long 0, .int 0, .ref mnow, .ref mread, .ref mkept, .ref msnaps, .ref maside, .ref mname, .ref mreadName, .ref mkeptName, .ref misKept, .ref monces, .int 0, .ref morder, .ref mordered, .int 0, .int (-1), .int 0, .int (-1), .int (-1), .ref mtext, .int 0, .int 0, .ref mline, .ref mwritten, .int 0, .int 0, .ref mnode, .int 0, .int 0, .int 0, .int 0])), (mnow, eI G 339 nw0)] (fun (u9 : va_W) => u9 = [(qm, .inr (10, [.int 0, .ref mtape, .int 0, .int 0, .int 0, .int 0, .int 0, .int 0, .int 0, .int 0, .int 0, .int 0, .long 0, .int 0, .ref mnow, .ref mread, .ref mkept, .ref msnaps, .ref maside, .ref mname, .ref mreadName, .ref mkeptName, .ref misKept, .ref monces, .int 0, .ref morder, .ref mordered, .int 0, .int 0, .int 0, .int (-1), .int (-1), .ref mtext, .int 0, .int 0, .ref mline, .ref mwritten, .int 0, .int 0, .ref mnode, .int 0, .int 0, .int 0, .int 0])), (mnow, eI G 339 nw0)]) := by
  refine Cv.of (by decide) (Nat.le_of_ble_eq_true rfl) ?_
  intro p e s m below meth c ls A B hw hl
  have C : CallFix p m c cX11_orderFrom 10 s _ gw "LanternStateModel" := B.1
  have hl : lv_has ls 10 [(0, .ref qm), (1, .int 0), (2, .int 0), (3, .int 0), (4, .int 0), (5, .int 0)] := hl
  refine lv_iconst (v := 0) C.1 C.2.1 dX11_orderFrom_0 (by decide) ?_
  refine lv_istore (lv' := [(6, .int 0), (0, .ref qm), (1, .int 0), (2, .int 0), (3, .int 0), (4, .int 0), (5, .int 0)]) C.1 C.2.1 dX11_orderFrom_1 hl (by decide) rfl (fun ls hl => ?_)
  refine lv_iconst (v := 0) C.1 C.2.1 dX11_orderFrom_3 (by decide) ?_
  refine lv_istore (lv' := [(7, .int 0), (6, .int 0), (0, .ref qm), (1, .int 0), (2, .int 0), (3, .int 0), (4, .int 0), (5, .int 0)]) C.1 C.2.1 dX11_orderFrom_4 hl (by decide) rfl (fun ls hl => ?_)
  refine lv_iload C.1 C.2.1 dX11_orderFrom_6 (lv_at hl 0 rfl) ?_
  refine lv_aload_n C.1 C.2.1 dX11_orderFrom_8 rfl (lv_at hl 2 rfl) ?_
  refine x_get C hw iwX11 10 rfl 0 rfl 14 (by decide) kw1211 rfl dX11_orderFrom_9 ?_
  refine lv_iconst (v := 0) C.1 C.2.1 dX11_orderFrom_12 (by decide) ?_
  refine x_iald (v := 0) C hw 1 rfl (x_in rfl) nw0_0 dX11_orderFrom_13 ?_
  refine lv_icmp_ge (tgt := 176) C.1 C.2.1 dX11_orderFrom_14 (by decide) (fun _ => ?_) (fun h9 => absurd (by decide) h9)
  refine lv_iload C.1 C.2.1 dX11_orderFrom_176 (lv_at hl 1 rfl) ?_
  refine lv_if_ne (tgt := 188) C.1 C.2.1 dX11_orderFrom_178 (by decide) (fun h9 => absurd (by decide) h9) (fun _ => ?_)
  refine lv_aload_n C.1 C.2.1 dX11_orderFrom_181 rfl (lv_at hl 2 rfl) ?_
  refine lv_iload_n C.1 C.2.1 dX11_orderFrom_182 rfl (lv_at hl 3 rfl) ?_
  refine lv_iload C.1 C.2.1 dX11_orderFrom_183 (lv_at hl 7 rfl) ?_
  refine x_callvV (As := [.int 0, .int 0]) (rest := []) (wr := [(mnow, eI G 339 nw0)]) C hw (c_X11_endOrder qm mtape mnow mread mkept msnaps maside mname mreadName mkeptName misKept monces morder mordered mtext mline mwritten mnode) mwX11_endOrder kw1616 [0] [1] rfl rfl rfl rfl (by decide) 0 rfl rfl rfl rfl hl.1 rfl (Nat.le_of_ble_eq_true rfl) ⟨(Nat.le_of_ble_eq_true rfl), (Nat.le_of_ble_eq_true rfl)⟩ ⟨(Nat.le_of_ble_eq_true rfl), (Nat.le_of_ble_eq_true rfl)⟩ dX11_orderFrom_185 (fun  u9 H locs hp9 hw => ?_)
  obtain rfl := hp9
  have hw : Wd G s A [(mnow, eI G 339 nw0), (qm, .inr (10, [.int 0, .ref mtape, .int 0, .int 0, .int 0, .int 0, .int 0, .int 0, .int 0, .int 0, .int 0, .int 0, .long 0, .int 0, .ref mnow, .ref mread, .ref mkept, .ref msnaps, .ref maside, .ref mname, .ref mreadName, .ref mkeptName, .ref misKept, .ref monces, .int 0, .ref morder, .ref mordered, .int 0, .int 0, .int 0, .int (-1), .int (-1), .ref mtext, .int 0, .int 0, .ref mline, .ref mwritten, .int 0, .int 0, .ref mnode, .int 0, .int 0, .int 0, .int 0]))] H _ := hw
  have hw := hw.sub (w' := [(qm, .inr (10, [.int 0, .ref mtape, .int 0, .int 0, .int 0, .int 0, .int 0, .int 0, .int 0, .int 0, .int 0, .int 0, .long 0, .int 0, .ref mnow, .ref mread, .ref mkept, .ref msnaps, .ref maside, .ref mname, .ref mreadName, .ref mkeptName, .ref misKept, .ref monces, .int 0, .ref morder, .ref mordered, .int 0, .int 0, .int 0, .int (-1), .int (-1), .ref mtext, .int 0, .int 0, .ref mline, .ref mwritten, .int 0, .int 0, .ref mnode, .int 0, .int 0, .int 0, .int 0])), (mnow, eI G 339 nw0)]) [1, 0] rfl rfl
  exact x_retv B hw rfl (Nat.le_of_ble_eq_true rfl) (Nat.le_of_ble_eq_true rfl) dX11_orderFrom_188
theorem dX11_order_0 : decode cX11_order 0 = .ok (.aload_n 0, 1) := by decide +kernel
theorem dX11_order_1 : decode cX11_order 1 = .ok (.iconst 0, 1) := by decide +kernel
theorem dX11_order_2 : decode cX11_order 2 = .ok (.putfield 1, 3) := by decide +kernel
theorem dX11_order_5 : decode cX11_order 5 = .ok (.aload_n 0, 1) := by decide +kernel
theorem dX11_order_6 : decode cX11_order 6 = .ok (.iconst 0, 1) := by decide +kernel
theorem dX11_order_7 : decode cX11_order 7 = .ok (.putfield 317, 3) := by decide +kernel
theorem dX11_order_10 : decode cX11_order 10 = .ok (.iconst 0, 1) := by decide +kernel
theorem dX11_order_11 : decode cX11_order 11 = .ok (.istore_n 1, 1) := by decide +kernel
theorem dX11_order_12 : decode cX11_order 12 = .ok (.iload_n 1, 1) := by decide +kernel
theorem dX11_order_13 : decode cX11_order 13 = .ok (.aload_n 0, 1) := by decide +kernel
theorem dX11_order_14 : decode cX11_order 14 = .ok (.getfield 98, 3) := by decide +kernel
theorem dX11_order_17 : decode cX11_order 17 = .ok (.iconst 0, 1) := by decide +kernel
theorem dX11_order_18 : decode cX11_order 18 = .ok (.iaload, 1) := by decide +kernel
theorem dX11_order_19 : decode cX11_order 19 = .ok (.if_icmp .ge 39, 3) := by decide +kernel
theorem dX11_order_58 : decode cX11_order 58 = .ok (.aload_n 0, 1) := by decide +kernel
theorem dX11_order_59 : decode cX11_order 59 = .ok (.iconst (-1), 1) := by decide +kernel
theorem dX11_order_60 : decode cX11_order 60 = .ok (.putfield 307, 3) := by decide +kernel
theorem dX11_order_63 : decode cX11_order 63 = .ok (.aload_n 0, 1) := by decide +kernel
theorem dX11_order_64 : decode cX11_order 64 = .ok (.iconst 0, 1) := by decide +kernel
theorem dX11_order_65 : decode cX11_order 65 = .ok (.putfield 310, 3) := by decide +kernel
theorem dX11_order_68 : decode cX11_order 68 = .ok (.iconst 1, 1) := by decide +kernel
theorem dX11_order_69 : decode cX11_order 69 = .ok (.aload_n 0, 1) := by decide +kernel
theorem dX11_order_70 : decode cX11_order 70 = .ok (.getfield 98, 3) := by decide +kernel
theorem dX11_order_73 : decode cX11_order 73 = .ok (.iconst 0, 1) := by decide +kernel
theorem dX11_order_74 : decode cX11_order 74 = .ok (.iaload, 1) := by decide +kernel
theorem dX11_order_75 : decode cX11_order 75 = .ok (.ishl, 1) := by decide +kernel
theorem dX11_order_76 : decode cX11_order 76 = .ok (.iconst 1, 1) := by decide +kernel
theorem dX11_order_77 : decode cX11_order 77 = .ok (.isub, 1) := by decide +kernel
theorem dX11_order_78 : decode cX11_order 78 = .ok (.aload_n 0, 1) := by decide +kernel
theorem dX11_order_79 : decode cX11_order 79 = .ok (.getfield 98, 3) := by decide +kernel
theorem dX11_order_82 : decode cX11_order 82 = .ok (.bipush 67, 2) := by decide +kernel
theorem dX11_order_84 : decode cX11_order 84 = .ok (.iaload, 1) := by decide +kernel
theorem dX11_order_85 : decode cX11_order 85 = .ok (.aload_n 0, 1) := by decide +kernel
theorem dX11_order_86 : decode cX11_order 86 = .ok (.getfield 98, 3) := by decide +kernel
theorem dX11_order_89 : decode cX11_order 89 = .ok (.bipush 68, 2) := by decide +kernel
theorem dX11_order_91 : decode cX11_order 91 = .ok (.iaload, 1) := by decide +kernel
theorem dX11_order_92 : decode cX11_order 92 = .ok (.ior, 1) := by decide +kernel
theorem dX11_order_93 : decode cX11_order 93 = .ok (.iconst (-1), 1) := by decide +kernel
theorem dX11_order_94 : decode cX11_order 94 = .ok (.ixor, 1) := by decide +kernel
theorem dX11_order_95 : decode cX11_order 95 = .ok (.iand, 1) := by decide +kernel
theorem dX11_order_96 : decode cX11_order 96 = .ok (.istore_n 1, 1) := by decide +kernel
theorem dX11_order_97 : decode cX11_order 97 = .ok (.aload_n 0, 1) := by decide +kernel
theorem dX11_order_98 : decode cX11_order 98 = .ok (.getfield 98, 3) := by decide +kernel
theorem dX11_order_101 : decode cX11_order 101 = .ok (.bipush 66, 2) := by decide +kernel
theorem dX11_order_103 : decode cX11_order 103 = .ok (.iaload, 1) := by decide +kernel
theorem dX11_order_104 : decode cX11_order 104 = .ok (.iconst 1, 1) := by decide +kernel
theorem dX11_order_105 : decode cX11_order 105 = .ok (.if_icmp .ne 12, 3) := by decide +kernel
theorem dX11_order_117 : decode cX11_order 117 = .ok (.aload_n 0, 1) := by decide +kernel
theorem dX11_order_118 : decode cX11_order 118 = .ok (.iconst 0, 1) := by decide +kernel
theorem dX11_order_119 : decode cX11_order 119 = .ok (.iload_n 1, 1) := by decide +kernel
theorem dX11_order_120 : decode cX11_order 120 = .ok (.aload_n 0, 1) := by decide +kernel
theorem dX11_order_121 : decode cX11_order 121 = .ok (.getfield 98, 3) := by decide +kernel
theorem dX11_order_124 : decode cX11_order 124 = .ok (.bipush 65, 2) := by decide +kernel
theorem dX11_order_126 : decode cX11_order 126 = .ok (.iaload, 1) := by decide +kernel
theorem dX11_order_127 : decode cX11_order 127 = .ok (.aload_n 0, 1) := by decide +kernel
theorem dX11_order_128 : decode cX11_order 128 = .ok (.getfield 98, 3) := by decide +kernel
theorem dX11_order_131 : decode cX11_order 131 = .ok (.bipush 67, 2) := by decide +kernel
theorem dX11_order_133 : decode cX11_order 133 = .ok (.iaload, 1) := by decide +kernel
theorem dX11_order_134 : decode cX11_order 134 = .ok (.iconst 0, 1) := by decide +kernel
theorem dX11_order_135 : decode cX11_order 135 = .ok (.invokevirtual 320, 3) := by decide +kernel
theorem mwX11_orderFrom : MwV yX11_orderFrom cX11_orderFrom 10 none 5 := ⟨⟨kw1623, kw15, by decide +kernel⟩, kw1622, kS90⟩
theorem dX11_order_138 : decode cX11_order 138 = .ok (.aload_n 0, 1) := by decide +kernel
theorem dX11_order_139 : decode cX11_order 139 = .ok (.getfield 307, 3) := by decide +kernel
theorem dX11_order_142 : decode cX11_order 142 = .ok (.ireturn, 1) := by decide +kernel
set_option maxHeartbeats 4000000 in
set_option maxRecDepth 100000 in
theorem c_X11_order {l : Launch} {G : Gc} (qm : Nat) (mtape : Nat) (mnow : Nat) (mread : Nat) (mkept : Nat) (msnaps : Nat) (maside : Nat) (mname : Nat) (mreadName : Nat) (mkeptName : Nat) (misKept : Nat) (monces : Nat) (morder : Nat) (mordered : Nat) (mtext : Nat) (mline : Nat) (mwritten : Nat) (mnode : Nat)  : Ci l yX11_order cX11_order 2 (some .int) 2 0 0 G [.ref qm] [(qm, .inr (10, [.int 0, .ref mtape, .int 0, .int 0, .int 0, .int 0, .int 0, .int 0, .int 0, .int 0, .int 0, .int 0, .long 0, .int 0, .ref mnow, .ref mread, .ref mkept, .ref msnaps, .ref maside, .ref mname, .ref mreadName, .ref mkeptName, .ref misKept, .ref monces, .int 0, .ref morder, .ref mordered, .int 0, .int 0, .int 0, .int (-1), .int (-1), .ref mtext, .int 0, .int 0, .ref mline, .ref mwritten, .int 0, .int 0, .ref mnode, .int 0, .int 0, .int 0, .int 0])), (mnow, eI G 339 nw0)] (fun (r9 : Int32) (u9 : va_W) => r9 = 0 ∧ u9 = []) := by
  refine Ci.of (by decide) (Nat.le_of_ble_eq_true rfl) ?_
  intro p e s m below meth c ls A B hw hl
  have C : CallFix p m c cX11_order 2 s _ gw "LanternStateModel" := B.1
  have hl : lv_has ls 2 [(0, .ref qm)] := hl
  refine lv_aload_n C.1 C.2.1 dX11_order_0 rfl (lv_at hl 0 rfl) ?_
  refine lv_iconst (v := 0) C.1 C.2.1 dX11_order_1 (by decide) ?_
  refine x_put (w' := [(qm, .inr (10, [.int 0, .ref mtape, .int 0, .int 0, .int 0, .int 0, .int 0, .int 0, .int 0, .int 0, .int 0, .int 0, .long 0, .int 0, .ref mnow, .ref mread, .ref mkept, .ref msnaps, .ref maside, .ref mname, .ref mreadName, .ref mkeptName, .ref misKept, .ref monces, .int 0, .ref morder, .ref mordered, .int 0, .int 0, .int 0, .int (-1), .int (-1), .ref mtext, .int 0, .int 0, .ref mline, .ref mwritten, .int 0, .int 0, .ref mnode, .int 0, .int 0, .int 0, .int 0])), (mnow, eI G 339 nw0)]) C hw iwX11 tyX11_ok nmX11 10 rfl 0 rfl 0 (by decide) kw1197 rfl rfl rfl (Nat.le_of_ble_eq_true rfl) rfl dX11_order_2 (fun H locs hw => ?_)
  refine lv_aload_n C.1 C.2.1 dX11_order_5 rfl (lv_at hl 0 rfl) ?_
  refine lv_iconst (v := 0) C.1 C.2.1 dX11_order_6 (by decide) ?_
  refine x_put (w' := [(qm, .inr (10, [.int 0, .ref mtape, .int 0, .int 0, .int 0, .int 0, .int 0, .int 0, .int 0, .int 0, .int 0, .int 0, .long 0, .int 0, .ref mnow, .ref mread, .ref mkept, .ref msnaps, .ref maside, .ref mname, .ref mreadName, .ref mkeptName, .ref misKept, .ref monces, .int 0, .ref morder, .ref mordered, .int 0, .int 0, .int 0, .int (-1), .int (-1), .ref mtext, .int 0, .int 0, .ref mline, .ref mwritten, .int 0, .int 0, .ref mnode, .int 0, .int 0, .int 0, .int 0])), (mnow, eI G 339 nw0)]) C hw iwX11 tyX11_ok nmX11 10 rfl 0 rfl 29 (by decide) kw1226 rfl rfl rfl (Nat.le_of_ble_eq_true rfl) rfl dX11_order_7 (fun H locs hw => ?_)
  refine lv_iconst (v := 0) C.1 C.2.1 dX11_order_10 (by decide) ?_
  refine lv_istore_n (lv' := [(1, .int 0), (0, .ref qm)]) C.1 C.2.1 dX11_order_11 rfl hl (by decide) rfl (fun ls hl => ?_)
  refine lv_iload_n C.1 C.2.1 dX11_order_12 rfl (lv_at hl 0 rfl) ?_
  refine lv_aload_n C.1 C.2.1 dX11_order_13 rfl (lv_at hl 1 rfl) ?_
  refine x_get C hw iwX11 10 rfl 0 rfl 14 (by decide) kw1211 rfl dX11_order_14 ?_
  refine lv_iconst (v := 0) C.1 C.2.1 dX11_order_17 (by decide) ?_
  refine x_iald (v := 0) C hw 1 rfl (x_in rfl) nw0_0 dX11_order_18 ?_
  refine lv_icmp_ge (tgt := 58) C.1 C.2.1 dX11_order_19 (by decide) (fun _ => ?_) (fun h9 => absurd (by decide) h9)
  refine lv_aload_n C.1 C.2.1 dX11_order_58 rfl (lv_at hl 1 rfl) ?_
  refine lv_iconst (v := (-1)) C.1 C.2.1 dX11_order_59 (by decide) ?_
  refine x_put (w' := [(qm, .inr (10, [.int 0, .ref mtape, .int 0, .int 0, .int 0, .int 0, .int 0, .int 0, .int 0, .int 0, .int 0, .int 0, .long 0, .int 0, .ref mnow, .ref mread, .ref mkept, .ref msnaps, .ref maside, .ref mname, .ref mreadName, .ref mkeptName, .ref misKept, .ref monces, .int 0, .ref morder, .ref mordered, .int 0, .int (-1), .int 0, .int (-1), .int (-1), .ref mtext, .int 0, .int 0, .ref mline, .ref mwritten, .int 0, .int 0, .ref mnode, .int 0, .int 0, .int 0, .int 0])), (mnow, eI G 339 nw0)]) C hw iwX11 tyX11_ok nmX11 10 rfl 0 rfl 28 (by decide) kw1225 rfl rfl rfl (Nat.le_of_ble_eq_true rfl) rfl dX11_order_60 (fun H locs hw => ?_)
  refine lv_aload_n C.1 C.2.1 dX11_order_63 rfl (lv_at hl 1 rfl) ?_
  refine lv_iconst (v := 0) C.1 C.2.1 dX11_order_64 (by decide) ?_
  refine x_put (w' := [(qm, .inr (10, [.int 0, .ref mtape, .int 0, .int 0, .int 0, .int 0, .int 0, .int 0, .int 0, .int 0, .int 0, .int 0, .long 0, .int 0, .ref mnow, .ref mread, .ref mkept, .ref msnaps, .ref maside, .ref mname, .ref mreadName, .ref mkeptName, .ref misKept, .ref monces, .int 0, .ref morder, .ref mordered, .int 0, .int (-1), .int 0, .int (-1), .int (-1), .ref mtext, .int 0, .int 0, .ref mline, .ref mwritten, .int 0, .int 0, .ref mnode, .int 0, .int 0, .int 0, .int 0])), (mnow, eI G 339 nw0)]) C hw iwX11 tyX11_ok nmX11 10 rfl 0 rfl 27 (by decide) kw1224 rfl rfl rfl (Nat.le_of_ble_eq_true rfl) rfl dX11_order_65 (fun H locs hw => ?_)
  refine lv_iconst (v := 1) C.1 C.2.1 dX11_order_68 (by decide) ?_
  refine lv_aload_n C.1 C.2.1 dX11_order_69 rfl (lv_at hl 1 rfl) ?_
  refine x_get C hw iwX11 10 rfl 0 rfl 14 (by decide) kw1211 rfl dX11_order_70 ?_
  refine lv_iconst (v := 0) C.1 C.2.1 dX11_order_73 (by decide) ?_
  refine x_iald (v := 0) C hw 1 rfl (x_in rfl) nw0_0 dX11_order_74 ?_
  refine lv_ishl C.1 C.2.1 dX11_order_75 ?_
  refine x_topi (z := 1) (by decide) ?_
  refine lv_iconst (v := 1) C.1 C.2.1 dX11_order_76 (by decide) ?_
  refine lv_isub C.1 C.2.1 dX11_order_77 ?_
  refine x_topi (z := 0) (by decide) ?_
  refine lv_aload_n C.1 C.2.1 dX11_order_78 rfl (lv_at hl 1 rfl) ?_
  refine x_get C hw iwX11 10 rfl 0 rfl 14 (by decide) kw1211 rfl dX11_order_79 ?_
  refine lv_bipush (v := 67) C.1 C.2.1 dX11_order_82 (by decide) ?_
  refine x_iald (v := 0) C hw 1 rfl (x_in rfl) nw0_67 dX11_order_84 ?_
  refine lv_aload_n C.1 C.2.1 dX11_order_85 rfl (lv_at hl 1 rfl) ?_
  refine x_get C hw iwX11 10 rfl 0 rfl 14 (by decide) kw1211 rfl dX11_order_86 ?_
  refine lv_bipush (v := 68) C.1 C.2.1 dX11_order_89 (by decide) ?_
  refine x_iald (v := 0) C hw 1 rfl (x_in rfl) nw0_68 dX11_order_91 ?_
  refine lv_ior C.1 C.2.1 dX11_order_92 ?_
  refine x_topi (z := 0) (by decide) ?_
  refine lv_iconst (v := (-1)) C.1 C.2.1 dX11_order_93 (by decide) ?_
  refine lv_ixor C.1 C.2.1 dX11_order_94 ?_
  refine x_topi (z := (-1)) (by decide) ?_
  refine lv_iand C.1 C.2.1 dX11_order_95 ?_
  refine x_topi (z := 0) (by decide) ?_
  refine lv_istore_n (lv' := [(1, .int 0), (0, .ref qm)]) C.1 C.2.1 dX11_order_96 rfl hl (by decide) rfl (fun ls hl => ?_)
  refine lv_aload_n C.1 C.2.1 dX11_order_97 rfl (lv_at hl 1 rfl) ?_
  refine x_get C hw iwX11 10 rfl 0 rfl 14 (by decide) kw1211 rfl dX11_order_98 ?_
  refine lv_bipush (v := 66) C.1 C.2.1 dX11_order_101 (by decide) ?_
  refine x_iald (v := 0) C hw 1 rfl (x_in rfl) nw0_66 dX11_order_103 ?_
  refine lv_iconst (v := 1) C.1 C.2.1 dX11_order_104 (by decide) ?_
  refine lv_icmp_ne (tgt := 117) C.1 C.2.1 dX11_order_105 (by decide) (fun _ => ?_) (fun h9 => absurd h9 (by decide))
  refine lv_aload_n C.1 C.2.1 dX11_order_117 rfl (lv_at hl 1 rfl) ?_
  refine lv_iconst (v := 0) C.1 C.2.1 dX11_order_118 (by decide) ?_
  refine lv_iload_n C.1 C.2.1 dX11_order_119 rfl (lv_at hl 0 rfl) ?_
  refine lv_aload_n C.1 C.2.1 dX11_order_120 rfl (lv_at hl 1 rfl) ?_
  refine x_get C hw iwX11 10 rfl 0 rfl 14 (by decide) kw1211 rfl dX11_order_121 ?_
  refine lv_bipush (v := 65) C.1 C.2.1 dX11_order_124 (by decide) ?_
  refine x_iald (v := 0) C hw 1 rfl (x_in rfl) nw0_65 dX11_order_126 ?_
  refine lv_aload_n C.1 C.2.1 dX11_order_127 rfl (lv_at hl 1 rfl) ?_
  refine x_get C hw iwX11 10 rfl 0 rfl 14 (by decide) kw1211 rfl dX11_order_128 ?_
  refine lv_bipush (v := 67) C.1 C.2.1 dX11_order_131 (by decide) ?_
  refine x_iald (v := 0) C hw 1 rfl (x_in rfl) nw0_67 dX11_order_133 ?_
  refine lv_iconst (v := 0) C.1 C.2.1 dX11_order_134 (by decide) ?_
  refine x_callvV (As := [.int 0, .int 0, .int 0, .int 0, .int 0]) (rest := []) (wr := []) C hw (c_X11_orderFrom qm mtape mnow mread mkept msnaps maside mname mreadName mkeptName misKept monces morder mordered mtext mline mwritten mnode) mwX11_orderFrom kw1620 [0, 1] [] rfl rfl rfl rfl (by decide) 0 rfl rfl rfl rfl hl.1 rfl (Nat.le_of_ble_eq_true rfl) ⟨(Nat.le_of_ble_eq_true rfl), (Nat.le_of_ble_eq_true rfl)⟩ ⟨(Nat.le_of_ble_eq_true rfl), (Nat.le_of_ble_eq_true rfl)⟩ dX11_order_135 (fun  u9 H locs hp9 hw => ?_)
  obtain rfl := hp9
  have hw : Wd G s A [(qm, .inr (10, [.int 0, .ref mtape, .int 0, .int 0, .int 0, .int 0, .int 0, .int 0, .int 0, .int 0, .int 0, .int 0, .long 0, .int 0, .ref mnow, .ref mread, .ref mkept, .ref msnaps, .ref maside, .ref mname, .ref mreadName, .ref mkeptName, .ref misKept, .ref monces, .int 0, .ref morder, .ref mordered, .int 0, .int 0, .int 0, .int (-1), .int (-1), .ref mtext, .int 0, .int 0, .ref mline, .ref mwritten, .int 0, .int 0, .ref mnode, .int 0, .int 0, .int 0, .int 0])), (mnow, eI G 339 nw0)] H _ := hw
  refine lv_aload_n C.1 C.2.1 dX11_order_138 rfl (lv_at hl 1 rfl) ?_
  refine x_get C hw iwX11 10 rfl 0 rfl 28 (by decide) kw1225 rfl dX11_order_139 ?_
  have hw := hw.sub (w' := []) [] rfl rfl
  exact x_reti B hw ⟨rfl, rfl⟩ (Nat.le_of_ble_eq_true rfl) (Nat.le_of_ble_eq_true rfl) dX11_order_142
theorem dX11_orderAt_0 : decode cX11_orderAt 0 = .ok (.aload_n 0, 1) := by decide +kernel
theorem dX11_orderAt_1 : decode cX11_orderAt 1 = .ok (.iconst 0, 1) := by decide +kernel
theorem dX11_orderAt_2 : decode cX11_orderAt 2 = .ok (.putfield 1, 3) := by decide +kernel
theorem dX11_orderAt_5 : decode cX11_orderAt 5 = .ok (.iload_n 1, 1) := by decide +kernel
theorem dX11_orderAt_6 : decode cX11_orderAt 6 = .ok (.iconst 0, 1) := by decide +kernel
theorem dX11_orderAt_7 : decode cX11_orderAt 7 = .ok (.aload_n 0, 1) := by decide +kernel
theorem dX11_orderAt_8 : decode cX11_orderAt 8 = .ok (.getfield 310, 3) := by decide +kernel
theorem dX11_orderAt_11 : decode cX11_orderAt 11 = .ok (.iconst 1, 1) := by decide +kernel
theorem dX11_orderAt_12 : decode cX11_orderAt 12 = .ok (.isub, 1) := by decide +kernel
theorem dX11_orderAt_13 : decode cX11_orderAt 13 = .ok (.invokestatic 75, 3) := by decide +kernel
theorem dX11_orderAt_16 : decode cX11_orderAt 16 = .ok (.ifCond .eq 12, 3) := by decide +kernel
theorem dX11_orderAt_28 : decode cX11_orderAt 28 = .ok (.iconst (-1), 1) := by decide +kernel
theorem dX11_orderAt_29 : decode cX11_orderAt 29 = .ok (.ireturn, 1) := by decide +kernel
set_option maxHeartbeats 4000000 in
set_option maxRecDepth 100000 in
theorem c_X11_orderAt {l : Launch} {G : Gc} (qm : Nat) (a1 : Int32) (mtape : Nat) (mnow : Nat) (mread : Nat) (mkept : Nat) (msnaps : Nat) (maside : Nat) (mname : Nat) (mreadName : Nat) (mkeptName : Nat) (misKept : Nat) (monces : Nat) (morder : Nat) (mordered : Nat) (mtext : Nat) (mline : Nat) (mwritten : Nat) (mnode : Nat)  : Ci l yX11_orderAt cX11_orderAt 2 (some .int) 1 0 0 G [.ref qm, .int a1] [(qm, .inr (10, [.int 0, .ref mtape, .int 0, .int 0, .int 0, .int 0, .int 0, .int 0, .int 0, .int 0, .int 0, .int 0, .long 0, .int 0, .ref mnow, .ref mread, .ref mkept, .ref msnaps, .ref maside, .ref mname, .ref mreadName, .ref mkeptName, .ref misKept, .ref monces, .int 0, .ref morder, .ref mordered, .int 0, .int 0, .int 0, .int (-1), .int (-1), .ref mtext, .int 0, .int 0, .ref mline, .ref mwritten, .int 0, .int 0, .ref mnode, .int 0, .int 0, .int 0, .int 0]))] (fun (r9 : Int32) (u9 : va_W) => r9 = (-1) ∧ u9 = []) := by
  refine Ci.of (by decide) (Nat.le_of_ble_eq_true rfl) ?_
  intro p e s m below meth c ls A B hw hl
  have C : CallFix p m c cX11_orderAt 2 s _ gw "LanternStateModel" := B.1
  have hl : lv_has ls 2 [(0, .ref qm), (1, .int a1)] := hl
  refine lv_aload_n C.1 C.2.1 dX11_orderAt_0 rfl (lv_at hl 0 rfl) ?_
  refine lv_iconst (v := 0) C.1 C.2.1 dX11_orderAt_1 (by decide) ?_
  refine x_put (w' := [(qm, .inr (10, [.int 0, .ref mtape, .int 0, .int 0, .int 0, .int 0, .int 0, .int 0, .int 0, .int 0, .int 0, .int 0, .long 0, .int 0, .ref mnow, .ref mread, .ref mkept, .ref msnaps, .ref maside, .ref mname, .ref mreadName, .ref mkeptName, .ref misKept, .ref monces, .int 0, .ref morder, .ref mordered, .int 0, .int 0, .int 0, .int (-1), .int (-1), .ref mtext, .int 0, .int 0, .ref mline, .ref mwritten, .int 0, .int 0, .ref mnode, .int 0, .int 0, .int 0, .int 0]))]) C hw iwX11 tyX11_ok nmX11 10 rfl 0 rfl 0 (by decide) kw1197 rfl rfl rfl (Nat.le_of_ble_eq_true rfl) rfl dX11_orderAt_2 (fun H locs hw => ?_)
  refine lv_iload_n C.1 C.2.1 dX11_orderAt_5 rfl (lv_at hl 1 rfl) ?_
  refine lv_iconst (v := 0) C.1 C.2.1 dX11_orderAt_6 (by decide) ?_
  refine lv_aload_n C.1 C.2.1 dX11_orderAt_7 rfl (lv_at hl 0 rfl) ?_
  refine x_get C hw iwX11 10 rfl 0 rfl 27 (by decide) kw1224 rfl dX11_orderAt_8 ?_
  refine lv_iconst (v := 1) C.1 C.2.1 dX11_orderAt_11 (by decide) ?_
  refine lv_isub C.1 C.2.1 dX11_orderAt_12 ?_
  refine x_topi (z := (-1)) (by decide) ?_
  refine x_calliS (As := [.int a1, .int 0, .int (-1)]) (rest := []) (wr := [(qm, .inr (10, [.int 0, .ref mtape, .int 0, .int 0, .int 0, .int 0, .int 0, .int 0, .int 0, .int 0, .int 0, .int 0, .long 0, .int 0, .ref mnow, .ref mread, .ref mkept, .ref msnaps, .ref maside, .ref mname, .ref mreadName, .ref mkeptName, .ref misKept, .ref monces, .int 0, .ref morder, .ref mordered, .int 0, .int 0, .int 0, .int (-1), .int (-1), .ref mtext, .int 0, .int 0, .ref mline, .ref mwritten, .int 0, .int 0, .ref mnode, .int 0, .int 0, .int 0, .int 0]))]) C hw (c_X11_isInF a1 0 (-1) (x_em _)) mwX11_isIn kw1400 [] [0] rfl rfl rfl rfl (by decide) rfl hl.1 rfl (Nat.le_of_ble_eq_true rfl) ⟨(Nat.le_of_ble_eq_true rfl), (Nat.le_of_ble_eq_true rfl)⟩ ⟨(Nat.le_of_ble_eq_true rfl), (Nat.le_of_ble_eq_true rfl)⟩ dX11_orderAt_13 (fun r1 u9 H locs hp9 hw => ?_)
  obtain ⟨rfl, rfl⟩ := hp9
  have hw : Wd G s A [(qm, .inr (10, [.int 0, .ref mtape, .int 0, .int 0, .int 0, .int 0, .int 0, .int 0, .int 0, .int 0, .int 0, .int 0, .long 0, .int 0, .ref mnow, .ref mread, .ref mkept, .ref msnaps, .ref maside, .ref mname, .ref mreadName, .ref mkeptName, .ref misKept, .ref monces, .int 0, .ref morder, .ref mordered, .int 0, .int 0, .int 0, .int (-1), .int (-1), .ref mtext, .int 0, .int 0, .ref mline, .ref mwritten, .int 0, .int 0, .ref mnode, .int 0, .int 0, .int 0, .int 0]))] H _ := hw
  refine lv_if_eq (tgt := 28) C.1 C.2.1 dX11_orderAt_16 (by decide) (fun _ => ?_) (fun h9 => absurd (by decide) h9)
  refine lv_iconst (v := (-1)) C.1 C.2.1 dX11_orderAt_28 (by decide) ?_
  have hw := hw.sub (w' := []) [] rfl rfl
  exact x_reti B hw ⟨rfl, rfl⟩ (Nat.le_of_ble_eq_true rfl) (Nat.le_of_ble_eq_true rfl) dX11_orderAt_29
theorem dX11_byteAt_0 : decode cX11_byteAt 0 = .ok (.aload_n 0, 1) := by decide +kernel
theorem dX11_byteAt_1 : decode cX11_byteAt 1 = .ok (.iconst 0, 1) := by decide +kernel
theorem dX11_byteAt_2 : decode cX11_byteAt 2 = .ok (.putfield 1, 3) := by decide +kernel
theorem dX11_byteAt_5 : decode cX11_byteAt 5 = .ok (.iload_n 1, 1) := by decide +kernel
theorem dX11_byteAt_6 : decode cX11_byteAt 6 = .ok (.iconst 0, 1) := by decide +kernel
theorem dX11_byteAt_7 : decode cX11_byteAt 7 = .ok (.aload_n 0, 1) := by decide +kernel
theorem dX11_byteAt_8 : decode cX11_byteAt 8 = .ok (.getfield 333, 3) := by decide +kernel
theorem dX11_byteAt_11 : decode cX11_byteAt 11 = .ok (.iconst 1, 1) := by decide +kernel
theorem dX11_byteAt_12 : decode cX11_byteAt 12 = .ok (.isub, 1) := by decide +kernel
theorem dX11_byteAt_13 : decode cX11_byteAt 13 = .ok (.invokestatic 75, 3) := by decide +kernel
theorem dX11_byteAt_16 : decode cX11_byteAt 16 = .ok (.ifCond .eq 12, 3) := by decide +kernel
theorem dX11_byteAt_28 : decode cX11_byteAt 28 = .ok (.iconst (-1), 1) := by decide +kernel
theorem dX11_byteAt_29 : decode cX11_byteAt 29 = .ok (.ireturn, 1) := by decide +kernel
set_option maxHeartbeats 4000000 in
set_option maxRecDepth 100000 in
theorem c_X11_byteAt {l : Launch} {G : Gc} (qm : Nat) (a1 : Int32) (mtape : Nat) (mnow : Nat) (mread : Nat) (mkept : Nat) (msnaps : Nat) (maside : Nat) (mname : Nat) (mreadName : Nat) (mkeptName : Nat) (misKept : Nat) (monces : Nat) (morder : Nat) (mordered : Nat) (mtext : Nat) (mline : Nat) (mwritten : Nat) (mnode : Nat)  : Ci l yX11_byteAt cX11_byteAt 2 (some .int) 1 0 0 G [.ref qm, .int a1] [(qm, .inr (10, [.int 0, .ref mtape, .int 0, .int 0, .int 0, .int 0, .int 0, .int 0, .int 0, .int 0, .int 0, .int 0, .long 0, .int 0, .ref mnow, .ref mread, .ref mkept, .ref msnaps, .ref maside, .ref mname, .ref mreadName, .ref mkeptName, .ref misKept, .ref monces, .int 0, .ref morder, .ref mordered, .int 0, .int 0, .int 0, .int (-1), .int (-1), .ref mtext, .int 0, .int 0, .ref mline, .ref mwritten, .int 0, .int 0, .ref mnode, .int 0, .int 0, .int 0, .int 0]))] (fun (r9 : Int32) (u9 : va_W) => r9 = (-1) ∧ u9 = []) := by
  refine Ci.of (by decide) (Nat.le_of_ble_eq_true rfl) ?_
  intro p e s m below meth c ls A B hw hl
  have C : CallFix p m c cX11_byteAt 2 s _ gw "LanternStateModel" := B.1
  have hl : lv_has ls 2 [(0, .ref qm), (1, .int a1)] := hl
  refine lv_aload_n C.1 C.2.1 dX11_byteAt_0 rfl (lv_at hl 0 rfl) ?_
  refine lv_iconst (v := 0) C.1 C.2.1 dX11_byteAt_1 (by decide) ?_
  refine x_put (w' := [(qm, .inr (10, [.int 0, .ref mtape, .int 0, .int 0, .int 0, .int 0, .int 0, .int 0, .int 0, .int 0, .int 0, .int 0, .long 0, .int 0, .ref mnow, .ref mread, .ref mkept, .ref msnaps, .ref maside, .ref mname, .ref mreadName, .ref mkeptName, .ref misKept, .ref monces, .int 0, .ref morder, .ref mordered, .int 0, .int 0, .int 0, .int (-1), .int (-1), .ref mtext, .int 0, .int 0, .ref mline, .ref mwritten, .int 0, .int 0, .ref mnode, .int 0, .int 0, .int 0, .int 0]))]) C hw iwX11 tyX11_ok nmX11 10 rfl 0 rfl 0 (by decide) kw1197 rfl rfl rfl (Nat.le_of_ble_eq_true rfl) rfl dX11_byteAt_2 (fun H locs hw => ?_)
  refine lv_iload_n C.1 C.2.1 dX11_byteAt_5 rfl (lv_at hl 1 rfl) ?_
  refine lv_iconst (v := 0) C.1 C.2.1 dX11_byteAt_6 (by decide) ?_
  refine lv_aload_n C.1 C.2.1 dX11_byteAt_7 rfl (lv_at hl 0 rfl) ?_
  refine x_get C hw iwX11 10 rfl 0 rfl 33 (by decide) kw1230 rfl dX11_byteAt_8 ?_
  refine lv_iconst (v := 1) C.1 C.2.1 dX11_byteAt_11 (by decide) ?_
  refine lv_isub C.1 C.2.1 dX11_byteAt_12 ?_
  refine x_topi (z := (-1)) (by decide) ?_
  refine x_calliS (As := [.int a1, .int 0, .int (-1)]) (rest := []) (wr := [(qm, .inr (10, [.int 0, .ref mtape, .int 0, .int 0, .int 0, .int 0, .int 0, .int 0, .int 0, .int 0, .int 0, .int 0, .long 0, .int 0, .ref mnow, .ref mread, .ref mkept, .ref msnaps, .ref maside, .ref mname, .ref mreadName, .ref mkeptName, .ref misKept, .ref monces, .int 0, .ref morder, .ref mordered, .int 0, .int 0, .int 0, .int (-1), .int (-1), .ref mtext, .int 0, .int 0, .ref mline, .ref mwritten, .int 0, .int 0, .ref mnode, .int 0, .int 0, .int 0, .int 0]))]) C hw (c_X11_isInF a1 0 (-1) (x_em _)) mwX11_isIn kw1400 [] [0] rfl rfl rfl rfl (by decide) rfl hl.1 rfl (Nat.le_of_ble_eq_true rfl) ⟨(Nat.le_of_ble_eq_true rfl), (Nat.le_of_ble_eq_true rfl)⟩ ⟨(Nat.le_of_ble_eq_true rfl), (Nat.le_of_ble_eq_true rfl)⟩ dX11_byteAt_13 (fun r1 u9 H locs hp9 hw => ?_)
  obtain ⟨rfl, rfl⟩ := hp9
  have hw : Wd G s A [(qm, .inr (10, [.int 0, .ref mtape, .int 0, .int 0, .int 0, .int 0, .int 0, .int 0, .int 0, .int 0, .int 0, .int 0, .long 0, .int 0, .ref mnow, .ref mread, .ref mkept, .ref msnaps, .ref maside, .ref mname, .ref mreadName, .ref mkeptName, .ref misKept, .ref monces, .int 0, .ref morder, .ref mordered, .int 0, .int 0, .int 0, .int (-1), .int (-1), .ref mtext, .int 0, .int 0, .ref mline, .ref mwritten, .int 0, .int 0, .ref mnode, .int 0, .int 0, .int 0, .int 0]))] H _ := hw
  refine lv_if_eq (tgt := 28) C.1 C.2.1 dX11_byteAt_16 (by decide) (fun _ => ?_) (fun h9 => absurd (by decide) h9)
  refine lv_iconst (v := (-1)) C.1 C.2.1 dX11_byteAt_28 (by decide) ?_
  have hw := hw.sub (w' := []) [] rfl rfl
  exact x_reti B hw ⟨rfl, rfl⟩ (Nat.le_of_ble_eq_true rfl) (Nat.le_of_ble_eq_true rfl) dX11_byteAt_29
theorem dX11_movedWho_0 : decode cX11_movedWho 0 = .ok (.aload_n 0, 1) := by decide +kernel
theorem dX11_movedWho_1 : decode cX11_movedWho 1 = .ok (.iconst 0, 1) := by decide +kernel
theorem dX11_movedWho_2 : decode cX11_movedWho 2 = .ok (.putfield 1, 3) := by decide +kernel
theorem dX11_movedWho_5 : decode cX11_movedWho 5 = .ok (.aload_n 0, 1) := by decide +kernel
theorem dX11_movedWho_6 : decode cX11_movedWho 6 = .ok (.getfield 136, 3) := by decide +kernel
theorem dX11_movedWho_9 : decode cX11_movedWho 9 = .ok (.ireturn, 1) := by decide +kernel
set_option maxHeartbeats 4000000 in
set_option maxRecDepth 100000 in
theorem c_X11_movedWho {l : Launch} {G : Gc} (qm : Nat) (mtape : Nat) (mnow : Nat) (mread : Nat) (mkept : Nat) (msnaps : Nat) (maside : Nat) (mname : Nat) (mreadName : Nat) (mkeptName : Nat) (misKept : Nat) (monces : Nat) (morder : Nat) (mordered : Nat) (mtext : Nat) (mline : Nat) (mwritten : Nat) (mnode : Nat)  : Ci l yX11_movedWho cX11_movedWho 1 (some .int) 0 0 0 G [.ref qm] [(qm, .inr (10, [.int 0, .ref mtape, .int 0, .int 0, .int 0, .int 0, .int 0, .int 0, .int 0, .int 0, .int 0, .int 0, .long 0, .int 0, .ref mnow, .ref mread, .ref mkept, .ref msnaps, .ref maside, .ref mname, .ref mreadName, .ref mkeptName, .ref misKept, .ref monces, .int 0, .ref morder, .ref mordered, .int 0, .int 0, .int 0, .int (-1), .int (-1), .ref mtext, .int 0, .int 0, .ref mline, .ref mwritten, .int 0, .int 0, .ref mnode, .int 0, .int 0, .int 0, .int 0]))] (fun (r9 : Int32) (u9 : va_W) => r9 = (-1) ∧ u9 = []) := by
  refine Ci.of (by decide) (Nat.le_of_ble_eq_true rfl) ?_
  intro p e s m below meth c ls A B hw hl
  have C : CallFix p m c cX11_movedWho 1 s _ gw "LanternStateModel" := B.1
  have hl : lv_has ls 1 [(0, .ref qm)] := hl
  refine lv_aload_n C.1 C.2.1 dX11_movedWho_0 rfl (lv_at hl 0 rfl) ?_
  refine lv_iconst (v := 0) C.1 C.2.1 dX11_movedWho_1 (by decide) ?_
  refine x_put (w' := [(qm, .inr (10, [.int 0, .ref mtape, .int 0, .int 0, .int 0, .int 0, .int 0, .int 0, .int 0, .int 0, .int 0, .int 0, .long 0, .int 0, .ref mnow, .ref mread, .ref mkept, .ref msnaps, .ref maside, .ref mname, .ref mreadName, .ref mkeptName, .ref misKept, .ref monces, .int 0, .ref morder, .ref mordered, .int 0, .int 0, .int 0, .int (-1), .int (-1), .ref mtext, .int 0, .int 0, .ref mline, .ref mwritten, .int 0, .int 0, .ref mnode, .int 0, .int 0, .int 0, .int 0]))]) C hw iwX11 tyX11_ok nmX11 10 rfl 0 rfl 0 (by decide) kw1197 rfl rfl rfl (Nat.le_of_ble_eq_true rfl) rfl dX11_movedWho_2 (fun H locs hw => ?_)
  refine lv_aload_n C.1 C.2.1 dX11_movedWho_5 rfl (lv_at hl 0 rfl) ?_
  refine x_get C hw iwX11 10 rfl 0 rfl 30 (by decide) kw1227 rfl dX11_movedWho_6 ?_
  have hw := hw.sub (w' := []) [] rfl rfl
  exact x_reti B hw ⟨rfl, rfl⟩ (Nat.le_of_ble_eq_true rfl) (Nat.le_of_ble_eq_true rfl) dX11_movedWho_9
theorem dX11_scratched_0 : decode cX11_scratched 0 = .ok (.aload_n 0, 1) := by decide +kernel
theorem dX11_scratched_1 : decode cX11_scratched 1 = .ok (.iconst 0, 1) := by decide +kernel
theorem dX11_scratched_2 : decode cX11_scratched 2 = .ok (.putfield 1, 3) := by decide +kernel
theorem dX11_scratched_5 : decode cX11_scratched 5 = .ok (.aload_n 0, 1) := by decide +kernel
theorem dX11_scratched_6 : decode cX11_scratched 6 = .ok (.getfield 139, 3) := by decide +kernel
theorem dX11_scratched_9 : decode cX11_scratched 9 = .ok (.ireturn, 1) := by decide +kernel
set_option maxHeartbeats 4000000 in
set_option maxRecDepth 100000 in
theorem c_X11_scratched {l : Launch} {G : Gc} (qm : Nat) (mtape : Nat) (mnow : Nat) (mread : Nat) (mkept : Nat) (msnaps : Nat) (maside : Nat) (mname : Nat) (mreadName : Nat) (mkeptName : Nat) (misKept : Nat) (monces : Nat) (morder : Nat) (mordered : Nat) (mtext : Nat) (mline : Nat) (mwritten : Nat) (mnode : Nat)  : Ci l yX11_scratched cX11_scratched 1 (some .int) 0 0 0 G [.ref qm] [(qm, .inr (10, [.int 0, .ref mtape, .int 0, .int 0, .int 0, .int 0, .int 0, .int 0, .int 0, .int 0, .int 0, .int 0, .long 0, .int 0, .ref mnow, .ref mread, .ref mkept, .ref msnaps, .ref maside, .ref mname, .ref mreadName, .ref mkeptName, .ref misKept, .ref monces, .int 0, .ref morder, .ref mordered, .int 0, .int 0, .int 0, .int (-1), .int (-1), .ref mtext, .int 0, .int 0, .ref mline, .ref mwritten, .int 0, .int 0, .ref mnode, .int 0, .int 0, .int 0, .int 0]))] (fun (r9 : Int32) (u9 : va_W) => r9 = (-1) ∧ u9 = []) := by
  refine Ci.of (by decide) (Nat.le_of_ble_eq_true rfl) ?_
  intro p e s m below meth c ls A B hw hl
  have C : CallFix p m c cX11_scratched 1 s _ gw "LanternStateModel" := B.1
  have hl : lv_has ls 1 [(0, .ref qm)] := hl
  refine lv_aload_n C.1 C.2.1 dX11_scratched_0 rfl (lv_at hl 0 rfl) ?_
  refine lv_iconst (v := 0) C.1 C.2.1 dX11_scratched_1 (by decide) ?_
  refine x_put (w' := [(qm, .inr (10, [.int 0, .ref mtape, .int 0, .int 0, .int 0, .int 0, .int 0, .int 0, .int 0, .int 0, .int 0, .int 0, .long 0, .int 0, .ref mnow, .ref mread, .ref mkept, .ref msnaps, .ref maside, .ref mname, .ref mreadName, .ref mkeptName, .ref misKept, .ref monces, .int 0, .ref morder, .ref mordered, .int 0, .int 0, .int 0, .int (-1), .int (-1), .ref mtext, .int 0, .int 0, .ref mline, .ref mwritten, .int 0, .int 0, .ref mnode, .int 0, .int 0, .int 0, .int 0]))]) C hw iwX11 tyX11_ok nmX11 10 rfl 0 rfl 0 (by decide) kw1197 rfl rfl rfl (Nat.le_of_ble_eq_true rfl) rfl dX11_scratched_2 (fun H locs hw => ?_)
  refine lv_aload_n C.1 C.2.1 dX11_scratched_5 rfl (lv_at hl 0 rfl) ?_
  refine x_get C hw iwX11 10 rfl 0 rfl 31 (by decide) kw1228 rfl dX11_scratched_6 ?_
  have hw := hw.sub (w' := []) [] rfl rfl
  exact x_reti B hw ⟨rfl, rfl⟩ (Nat.le_of_ble_eq_true rfl) (Nat.le_of_ble_eq_true rfl) dX11_scratched_9
theorem dX11_take_0 : decode cX11_take 0 = .ok (.aload_n 0, 1) := by decide +kernel
theorem dX11_take_1 : decode cX11_take 1 = .ok (.getfield 11, 3) := by decide +kernel
theorem dX11_take_4 : decode cX11_take 4 = .ok (.istore_n 1, 1) := by decide +kernel
theorem dX11_take_5 : decode cX11_take 5 = .ok (.aload_n 0, 1) := by decide +kernel
theorem dX11_take_6 : decode cX11_take 6 = .ok (.iconst 0, 1) := by decide +kernel
theorem dX11_take_7 : decode cX11_take 7 = .ok (.putfield 11, 3) := by decide +kernel
theorem dX11_take_10 : decode cX11_take 10 = .ok (.iload_n 1, 1) := by decide +kernel
theorem dX11_take_11 : decode cX11_take 11 = .ok (.ireturn, 1) := by decide +kernel
set_option maxHeartbeats 4000000 in
set_option maxRecDepth 100000 in
theorem c_X11_take {l : Launch} {G : Gc} (qm : Nat) (mtape : Nat) (mnow : Nat) (mread : Nat) (mkept : Nat) (msnaps : Nat) (maside : Nat) (mname : Nat) (mreadName : Nat) (mkeptName : Nat) (misKept : Nat) (monces : Nat) (morder : Nat) (mordered : Nat) (mtext : Nat) (mline : Nat) (mwritten : Nat) (mnode : Nat)  : Ci l yX11_take cX11_take 2 (some .int) 0 0 0 G [.ref qm] [(qm, .inr (10, [.int 0, .ref mtape, .int 0, .int 0, .int 0, .int 0, .int 0, .int 0, .int 0, .int 0, .int 0, .int 0, .long 0, .int 0, .ref mnow, .ref mread, .ref mkept, .ref msnaps, .ref maside, .ref mname, .ref mreadName, .ref mkeptName, .ref misKept, .ref monces, .int 0, .ref morder, .ref mordered, .int 0, .int 0, .int 0, .int (-1), .int (-1), .ref mtext, .int 0, .int 0, .ref mline, .ref mwritten, .int 0, .int 0, .ref mnode, .int 0, .int 0, .int 0, .int 0]))] (fun (r9 : Int32) (u9 : va_W) => r9 = 0 ∧ u9 = [(qm, .inr (10, [.int 0, .ref mtape, .int 0, .int 0, .int 0, .int 0, .int 0, .int 0, .int 0, .int 0, .int 0, .int 0, .long 0, .int 0, .ref mnow, .ref mread, .ref mkept, .ref msnaps, .ref maside, .ref mname, .ref mreadName, .ref mkeptName, .ref misKept, .ref monces, .int 0, .ref morder, .ref mordered, .int 0, .int 0, .int 0, .int (-1), .int (-1), .ref mtext, .int 0, .int 0, .ref mline, .ref mwritten, .int 0, .int 0, .ref mnode, .int 0, .int 0, .int 0, .int 0]))]) := by
  refine Ci.of (by decide) (Nat.le_of_ble_eq_true rfl) ?_
  intro p e s m below meth c ls A B hw hl
  have C : CallFix p m c cX11_take 2 s _ gw "LanternStateModel" := B.1
  have hl : lv_has ls 2 [(0, .ref qm)] := hl
  refine lv_aload_n C.1 C.2.1 dX11_take_0 rfl (lv_at hl 0 rfl) ?_
  refine x_get C hw iwX11 10 rfl 0 rfl 2 (by decide) kw1199 rfl dX11_take_1 ?_
  refine lv_istore_n (lv' := [(1, .int 0), (0, .ref qm)]) C.1 C.2.1 dX11_take_4 rfl hl (by decide) rfl (fun ls hl => ?_)
  refine lv_aload_n C.1 C.2.1 dX11_take_5 rfl (lv_at hl 1 rfl) ?_
  refine lv_iconst (v := 0) C.1 C.2.1 dX11_take_6 (by decide) ?_
  refine x_put (w' := [(qm, .inr (10, [.int 0, .ref mtape, .int 0, .int 0, .int 0, .int 0, .int 0, .int 0, .int 0, .int 0, .int 0, .int 0, .long 0, .int 0, .ref mnow, .ref mread, .ref mkept, .ref msnaps, .ref maside, .ref mname, .ref mreadName, .ref mkeptName, .ref misKept, .ref monces, .int 0, .ref morder, .ref mordered, .int 0, .int 0, .int 0, .int (-1), .int (-1), .ref mtext, .int 0, .int 0, .ref mline, .ref mwritten, .int 0, .int 0, .ref mnode, .int 0, .int 0, .int 0, .int 0]))]) C hw iwX11 tyX11_ok nmX11 10 rfl 0 rfl 2 (by decide) kw1199 rfl rfl rfl (Nat.le_of_ble_eq_true rfl) rfl dX11_take_7 (fun H locs hw => ?_)
  refine lv_iload_n C.1 C.2.1 dX11_take_10 rfl (lv_at hl 0 rfl) ?_
  exact x_reti B hw ⟨rfl, rfl⟩ (Nat.le_of_ble_eq_true rfl) (Nat.le_of_ble_eq_true rfl) dX11_take_11
theorem dX11_seen_0 : decode cX11_seen 0 = .ok (.aload_n 0, 1) := by decide +kernel
theorem dX11_seen_1 : decode cX11_seen 1 = .ok (.iconst 0, 1) := by decide +kernel
theorem dX11_seen_2 : decode cX11_seen 2 = .ok (.putfield 1, 3) := by decide +kernel
theorem dX11_seen_5 : decode cX11_seen 5 = .ok (.aload_n 0, 1) := by decide +kernel
theorem dX11_seen_6 : decode cX11_seen 6 = .ok (.invokevirtual 89, 3) := by decide +kernel
theorem mwX11_take : MwV yX11_take cX11_take 2 (some .int) 0 := ⟨⟨kw1342, kw15, by decide +kernel⟩, kw1341, kS46⟩
theorem dX11_seen_9 : decode cX11_seen 9 = .ok (.bipush 8, 2) := by decide +kernel
theorem dX11_seen_11 : decode cX11_seen 11 = .ok (.if_icmp .eq 5, 3) := by decide +kernel
theorem dX11_seen_14 : decode cX11_seen 14 = .ok (.iconst (-1), 1) := by decide +kernel
theorem dX11_seen_15 : decode cX11_seen 15 = .ok (.ireturn, 1) := by decide +kernel
set_option maxHeartbeats 4000000 in
set_option maxRecDepth 100000 in
theorem c_X11_seen {l : Launch} {G : Gc} (qm : Nat) (mtape : Nat) (mnow : Nat) (mread : Nat) (mkept : Nat) (msnaps : Nat) (maside : Nat) (mname : Nat) (mreadName : Nat) (mkeptName : Nat) (misKept : Nat) (monces : Nat) (morder : Nat) (mordered : Nat) (mtext : Nat) (mline : Nat) (mwritten : Nat) (mnode : Nat)  : Ci l yX11_seen cX11_seen 7 (some .int) 1 0 0 G [.ref qm] [(qm, .inr (10, [.int 0, .ref mtape, .int 0, .int 0, .int 0, .int 0, .int 0, .int 0, .int 0, .int 0, .int 0, .int 0, .long 0, .int 0, .ref mnow, .ref mread, .ref mkept, .ref msnaps, .ref maside, .ref mname, .ref mreadName, .ref mkeptName, .ref misKept, .ref monces, .int 0, .ref morder, .ref mordered, .int 0, .int 0, .int 0, .int (-1), .int (-1), .ref mtext, .int 0, .int 0, .ref mline, .ref mwritten, .int 0, .int 0, .ref mnode, .int 0, .int 0, .int 0, .int 0]))] (fun (r9 : Int32) (u9 : va_W) => r9 = (-1) ∧ u9 = []) := by
  refine Ci.of (by decide) (Nat.le_of_ble_eq_true rfl) ?_
  intro p e s m below meth c ls A B hw hl
  have C : CallFix p m c cX11_seen 7 s _ gw "LanternStateModel" := B.1
  have hl : lv_has ls 7 [(0, .ref qm)] := hl
  refine lv_aload_n C.1 C.2.1 dX11_seen_0 rfl (lv_at hl 0 rfl) ?_
  refine lv_iconst (v := 0) C.1 C.2.1 dX11_seen_1 (by decide) ?_
  refine x_put (w' := [(qm, .inr (10, [.int 0, .ref mtape, .int 0, .int 0, .int 0, .int 0, .int 0, .int 0, .int 0, .int 0, .int 0, .int 0, .long 0, .int 0, .ref mnow, .ref mread, .ref mkept, .ref msnaps, .ref maside, .ref mname, .ref mreadName, .ref mkeptName, .ref misKept, .ref monces, .int 0, .ref morder, .ref mordered, .int 0, .int 0, .int 0, .int (-1), .int (-1), .ref mtext, .int 0, .int 0, .ref mline, .ref mwritten, .int 0, .int 0, .ref mnode, .int 0, .int 0, .int 0, .int 0]))]) C hw iwX11 tyX11_ok nmX11 10 rfl 0 rfl 0 (by decide) kw1197 rfl rfl rfl (Nat.le_of_ble_eq_true rfl) rfl dX11_seen_2 (fun H locs hw => ?_)
  refine lv_aload_n C.1 C.2.1 dX11_seen_5 rfl (lv_at hl 0 rfl) ?_
  refine x_calliV (As := []) (rest := []) (wr := []) C hw (c_X11_take qm mtape mnow mread mkept msnaps maside mname mreadName mkeptName misKept monces morder mordered mtext mline mwritten mnode) mwX11_take kw1339 [0] [] rfl rfl rfl rfl (by decide) 0 rfl rfl rfl rfl hl.1 rfl (Nat.le_of_ble_eq_true rfl) ⟨(Nat.le_of_ble_eq_true rfl), (Nat.le_of_ble_eq_true rfl)⟩ ⟨(Nat.le_of_ble_eq_true rfl), (Nat.le_of_ble_eq_true rfl)⟩ dX11_seen_6 (fun r1 u9 H locs hp9 hw => ?_)
  obtain ⟨rfl, rfl⟩ := hp9
  have hw : Wd G s A [(qm, .inr (10, [.int 0, .ref mtape, .int 0, .int 0, .int 0, .int 0, .int 0, .int 0, .int 0, .int 0, .int 0, .int 0, .long 0, .int 0, .ref mnow, .ref mread, .ref mkept, .ref msnaps, .ref maside, .ref mname, .ref mreadName, .ref mkeptName, .ref misKept, .ref monces, .int 0, .ref morder, .ref mordered, .int 0, .int 0, .int 0, .int (-1), .int (-1), .ref mtext, .int 0, .int 0, .ref mline, .ref mwritten, .int 0, .int 0, .ref mnode, .int 0, .int 0, .int 0, .int 0]))] H _ := hw
  refine lv_bipush (v := 8) C.1 C.2.1 dX11_seen_9 (by decide) ?_
  refine lv_icmp_eq (tgt := 16) C.1 C.2.1 dX11_seen_11 (by decide) (fun h9 => absurd h9 (by decide)) (fun _ => ?_)
  refine lv_iconst (v := (-1)) C.1 C.2.1 dX11_seen_14 (by decide) ?_
  have hw := hw.sub (w' := []) [] rfl rfl
  exact x_reti B hw ⟨rfl, rfl⟩ (Nat.le_of_ble_eq_true rfl) (Nat.le_of_ble_eq_true rfl) dX11_seen_15
theorem dX11_parts_0 : decode cX11_parts 0 = .ok (.aload_n 0, 1) := by decide +kernel
theorem dX11_parts_1 : decode cX11_parts 1 = .ok (.iconst 0, 1) := by decide +kernel
theorem dX11_parts_2 : decode cX11_parts 2 = .ok (.putfield 1, 3) := by decide +kernel
theorem dX11_parts_5 : decode cX11_parts 5 = .ok (.iconst (-1), 1) := by decide +kernel
theorem dX11_parts_6 : decode cX11_parts 6 = .ok (.istore_n 1, 1) := by decide +kernel
theorem dX11_parts_7 : decode cX11_parts 7 = .ok (.iconst 0, 1) := by decide +kernel
theorem dX11_parts_8 : decode cX11_parts 8 = .ok (.istore_n 2, 1) := by decide +kernel
theorem dX11_parts_9 : decode cX11_parts 9 = .ok (.iload_n 2, 1) := by decide +kernel
theorem dX11_parts_10 : decode cX11_parts 10 = .ok (.aload_n 0, 1) := by decide +kernel
theorem dX11_parts_11 : decode cX11_parts 11 = .ok (.getfield 98, 3) := by decide +kernel
theorem dX11_parts_14 : decode cX11_parts 14 = .ok (.iconst 0, 1) := by decide +kernel
theorem dX11_parts_15 : decode cX11_parts 15 = .ok (.iaload, 1) := by decide +kernel
theorem dX11_parts_16 : decode cX11_parts 16 = .ok (.if_icmp .ge 37, 3) := by decide +kernel
theorem dX11_parts_53 : decode cX11_parts 53 = .ok (.iload_n 1, 1) := by decide +kernel
theorem dX11_parts_54 : decode cX11_parts 54 = .ok (.ireturn, 1) := by decide +kernel
set_option maxHeartbeats 4000000 in
set_option maxRecDepth 100000 in
theorem c_X11_parts {l : Launch} {G : Gc} (qm : Nat) (mtape : Nat) (mnow : Nat) (mread : Nat) (mkept : Nat) (msnaps : Nat) (maside : Nat) (mname : Nat) (mreadName : Nat) (mkeptName : Nat) (misKept : Nat) (monces : Nat) (morder : Nat) (mordered : Nat) (mtext : Nat) (mline : Nat) (mwritten : Nat) (mnode : Nat)  : Ci l yX11_parts cX11_parts 3 (some .int) 0 0 0 G [.ref qm] [(qm, .inr (10, [.int 0, .ref mtape, .int 0, .int 0, .int 0, .int 0, .int 0, .int 0, .int 0, .int 0, .int 0, .int 0, .long 0, .int 0, .ref mnow, .ref mread, .ref mkept, .ref msnaps, .ref maside, .ref mname, .ref mreadName, .ref mkeptName, .ref misKept, .ref monces, .int 0, .ref morder, .ref mordered, .int 0, .int 0, .int 0, .int (-1), .int (-1), .ref mtext, .int 0, .int 0, .ref mline, .ref mwritten, .int 0, .int 0, .ref mnode, .int 0, .int 0, .int 0, .int 0])), (mnow, eI G 339 nw0)] (fun (r9 : Int32) (u9 : va_W) => r9 = (-1) ∧ u9 = []) := by
  refine Ci.of (by decide) (Nat.le_of_ble_eq_true rfl) ?_
  intro p e s m below meth c ls A B hw hl
  have C : CallFix p m c cX11_parts 3 s _ gw "LanternStateModel" := B.1
  have hl : lv_has ls 3 [(0, .ref qm)] := hl
  refine lv_aload_n C.1 C.2.1 dX11_parts_0 rfl (lv_at hl 0 rfl) ?_
  refine lv_iconst (v := 0) C.1 C.2.1 dX11_parts_1 (by decide) ?_
  refine x_put (w' := [(qm, .inr (10, [.int 0, .ref mtape, .int 0, .int 0, .int 0, .int 0, .int 0, .int 0, .int 0, .int 0, .int 0, .int 0, .long 0, .int 0, .ref mnow, .ref mread, .ref mkept, .ref msnaps, .ref maside, .ref mname, .ref mreadName, .ref mkeptName, .ref misKept, .ref monces, .int 0, .ref morder, .ref mordered, .int 0, .int 0, .int 0, .int (-1), .int (-1), .ref mtext, .int 0, .int 0, .ref mline, .ref mwritten, .int 0, .int 0, .ref mnode, .int 0, .int 0, .int 0, .int 0])), (mnow, eI G 339 nw0)]) C hw iwX11 tyX11_ok nmX11 10 rfl 0 rfl 0 (by decide) kw1197 rfl rfl rfl (Nat.le_of_ble_eq_true rfl) rfl dX11_parts_2 (fun H locs hw => ?_)
  refine lv_iconst (v := (-1)) C.1 C.2.1 dX11_parts_5 (by decide) ?_
  refine lv_istore_n (lv' := [(1, .int (-1)), (0, .ref qm)]) C.1 C.2.1 dX11_parts_6 rfl hl (by decide) rfl (fun ls hl => ?_)
  refine lv_iconst (v := 0) C.1 C.2.1 dX11_parts_7 (by decide) ?_
  refine lv_istore_n (lv' := [(2, .int 0), (1, .int (-1)), (0, .ref qm)]) C.1 C.2.1 dX11_parts_8 rfl hl (by decide) rfl (fun ls hl => ?_)
  refine lv_iload_n C.1 C.2.1 dX11_parts_9 rfl (lv_at hl 0 rfl) ?_
  refine lv_aload_n C.1 C.2.1 dX11_parts_10 rfl (lv_at hl 2 rfl) ?_
  refine x_get C hw iwX11 10 rfl 0 rfl 14 (by decide) kw1211 rfl dX11_parts_11 ?_
  refine lv_iconst (v := 0) C.1 C.2.1 dX11_parts_14 (by decide) ?_
  refine x_iald (v := 0) C hw 1 rfl (x_in rfl) nw0_0 dX11_parts_15 ?_
  refine lv_icmp_ge (tgt := 53) C.1 C.2.1 dX11_parts_16 (by decide) (fun _ => ?_) (fun h9 => absurd (by decide) h9)
  refine lv_iload_n C.1 C.2.1 dX11_parts_53 rfl (lv_at hl 1 rfl) ?_
  have hw := hw.sub (w' := []) [] rfl rfl
  exact x_reti B hw ⟨rfl, rfl⟩ (Nat.le_of_ble_eq_true rfl) (Nat.le_of_ble_eq_true rfl) dX11_parts_54
theorem dX11_told_0 : decode cX11_told 0 = .ok (.aload_n 0, 1) := by decide +kernel
theorem dX11_told_1 : decode cX11_told 1 = .ok (.iconst 0, 1) := by decide +kernel
theorem dX11_told_2 : decode cX11_told 2 = .ok (.putfield 1, 3) := by decide +kernel
theorem dX11_told_5 : decode cX11_told 5 = .ok (.aload_n 0, 1) := by decide +kernel
theorem dX11_told_6 : decode cX11_told 6 = .ok (.getfield 386, 3) := by decide +kernel
theorem dX11_told_9 : decode cX11_told 9 = .ok (.ifCond .eq 21, 3) := by decide +kernel
theorem dX11_told_30 : decode cX11_told 30 = .ok (.iconst (-1), 1) := by decide +kernel
theorem dX11_told_31 : decode cX11_told 31 = .ok (.ireturn, 1) := by decide +kernel
set_option maxHeartbeats 4000000 in
set_option maxRecDepth 100000 in
theorem c_X11_told {l : Launch} {G : Gc} (qm : Nat) (a1 : Int32) (mtape : Nat) (mnow : Nat) (mread : Nat) (mkept : Nat) (msnaps : Nat) (maside : Nat) (mname : Nat) (mreadName : Nat) (mkeptName : Nat) (misKept : Nat) (monces : Nat) (morder : Nat) (mordered : Nat) (mtext : Nat) (mline : Nat) (mwritten : Nat) (mnode : Nat)  : Ci l yX11_told cX11_told 2 (some .int) 0 0 0 G [.ref qm, .int a1] [(qm, .inr (10, [.int 0, .ref mtape, .int 0, .int 0, .int 0, .int 0, .int 0, .int 0, .int 0, .int 0, .int 0, .int 0, .long 0, .int 0, .ref mnow, .ref mread, .ref mkept, .ref msnaps, .ref maside, .ref mname, .ref mreadName, .ref mkeptName, .ref misKept, .ref monces, .int 0, .ref morder, .ref mordered, .int 0, .int 0, .int 0, .int (-1), .int (-1), .ref mtext, .int 0, .int 0, .ref mline, .ref mwritten, .int 0, .int 0, .ref mnode, .int 0, .int 0, .int 0, .int 0]))] (fun (r9 : Int32) (u9 : va_W) => r9 = (-1) ∧ u9 = []) := by
  refine Ci.of (by decide) (Nat.le_of_ble_eq_true rfl) ?_
  intro p e s m below meth c ls A B hw hl
  have C : CallFix p m c cX11_told 2 s _ gw "LanternStateModel" := B.1
  have hl : lv_has ls 2 [(0, .ref qm), (1, .int a1)] := hl
  refine lv_aload_n C.1 C.2.1 dX11_told_0 rfl (lv_at hl 0 rfl) ?_
  refine lv_iconst (v := 0) C.1 C.2.1 dX11_told_1 (by decide) ?_
  refine x_put (w' := [(qm, .inr (10, [.int 0, .ref mtape, .int 0, .int 0, .int 0, .int 0, .int 0, .int 0, .int 0, .int 0, .int 0, .int 0, .long 0, .int 0, .ref mnow, .ref mread, .ref mkept, .ref msnaps, .ref maside, .ref mname, .ref mreadName, .ref mkeptName, .ref misKept, .ref monces, .int 0, .ref morder, .ref mordered, .int 0, .int 0, .int 0, .int (-1), .int (-1), .ref mtext, .int 0, .int 0, .ref mline, .ref mwritten, .int 0, .int 0, .ref mnode, .int 0, .int 0, .int 0, .int 0]))]) C hw iwX11 tyX11_ok nmX11 10 rfl 0 rfl 0 (by decide) kw1197 rfl rfl rfl (Nat.le_of_ble_eq_true rfl) rfl dX11_told_2 (fun H locs hw => ?_)
  refine lv_aload_n C.1 C.2.1 dX11_told_5 rfl (lv_at hl 0 rfl) ?_
  refine x_get C hw iwX11 10 rfl 0 rfl 38 (by decide) kw1235 rfl dX11_told_6 ?_
  refine lv_if_eq (tgt := 30) C.1 C.2.1 dX11_told_9 (by decide) (fun _ => ?_) (fun h9 => absurd (by decide) h9)
  refine lv_iconst (v := (-1)) C.1 C.2.1 dX11_told_30 (by decide) ?_
  have hw := hw.sub (w' := []) [] rfl rfl
  exact x_reti B hw ⟨rfl, rfl⟩ (Nat.le_of_ble_eq_true rfl) (Nat.le_of_ble_eq_true rfl) dX11_told_31
theorem dX11_said_0 : decode cX11_said 0 = .ok (.aload_n 0, 1) := by decide +kernel
theorem dX11_said_1 : decode cX11_said 1 = .ok (.iconst 0, 1) := by decide +kernel
theorem dX11_said_2 : decode cX11_said 2 = .ok (.putfield 1, 3) := by decide +kernel
theorem dX11_said_5 : decode cX11_said 5 = .ok (.aload_n 0, 1) := by decide +kernel
theorem dX11_said_6 : decode cX11_said 6 = .ok (.getfield 98, 3) := by decide +kernel
theorem dX11_said_9 : decode cX11_said 9 = .ok (.bipush 97, 2) := by decide +kernel
theorem dX11_said_11 : decode cX11_said 11 = .ok (.iaload, 1) := by decide +kernel
theorem nw0_97 : nw0 97 = 0 := by decide +kernel
theorem dX11_said_12 : decode cX11_said 12 = .ok (.ifCond .ne 5, 3) := by decide +kernel
theorem dX11_said_15 : decode cX11_said 15 = .ok (.iconst (-1), 1) := by decide +kernel
theorem dX11_said_16 : decode cX11_said 16 = .ok (.ireturn, 1) := by decide +kernel
set_option maxHeartbeats 4000000 in
set_option maxRecDepth 100000 in
theorem c_X11_said {l : Launch} {G : Gc} (qm : Nat) (a1 : Int32) (mtape : Nat) (mnow : Nat) (mread : Nat) (mkept : Nat) (msnaps : Nat) (maside : Nat) (mname : Nat) (mreadName : Nat) (mkeptName : Nat) (misKept : Nat) (monces : Nat) (morder : Nat) (mordered : Nat) (mtext : Nat) (mline : Nat) (mwritten : Nat) (mnode : Nat)  : Ci l yX11_said cX11_said 4 (some .int) 0 0 0 G [.ref qm, .int a1] [(qm, .inr (10, [.int 0, .ref mtape, .int 0, .int 0, .int 0, .int 0, .int 0, .int 0, .int 0, .int 0, .int 0, .int 0, .long 0, .int 0, .ref mnow, .ref mread, .ref mkept, .ref msnaps, .ref maside, .ref mname, .ref mreadName, .ref mkeptName, .ref misKept, .ref monces, .int 0, .ref morder, .ref mordered, .int 0, .int 0, .int 0, .int (-1), .int (-1), .ref mtext, .int 0, .int 0, .ref mline, .ref mwritten, .int 0, .int 0, .ref mnode, .int 0, .int 0, .int 0, .int 0])), (mnow, eI G 339 nw0)] (fun (r9 : Int32) (u9 : va_W) => r9 = (-1) ∧ u9 = []) := by
  refine Ci.of (by decide) (Nat.le_of_ble_eq_true rfl) ?_
  intro p e s m below meth c ls A B hw hl
  have C : CallFix p m c cX11_said 4 s _ gw "LanternStateModel" := B.1
  have hl : lv_has ls 4 [(0, .ref qm), (1, .int a1)] := hl
  refine lv_aload_n C.1 C.2.1 dX11_said_0 rfl (lv_at hl 0 rfl) ?_
  refine lv_iconst (v := 0) C.1 C.2.1 dX11_said_1 (by decide) ?_
  refine x_put (w' := [(qm, .inr (10, [.int 0, .ref mtape, .int 0, .int 0, .int 0, .int 0, .int 0, .int 0, .int 0, .int 0, .int 0, .int 0, .long 0, .int 0, .ref mnow, .ref mread, .ref mkept, .ref msnaps, .ref maside, .ref mname, .ref mreadName, .ref mkeptName, .ref misKept, .ref monces, .int 0, .ref morder, .ref mordered, .int 0, .int 0, .int 0, .int (-1), .int (-1), .ref mtext, .int 0, .int 0, .ref mline, .ref mwritten, .int 0, .int 0, .ref mnode, .int 0, .int 0, .int 0, .int 0])), (mnow, eI G 339 nw0)]) C hw iwX11 tyX11_ok nmX11 10 rfl 0 rfl 0 (by decide) kw1197 rfl rfl rfl (Nat.le_of_ble_eq_true rfl) rfl dX11_said_2 (fun H locs hw => ?_)
  refine lv_aload_n C.1 C.2.1 dX11_said_5 rfl (lv_at hl 0 rfl) ?_
  refine x_get C hw iwX11 10 rfl 0 rfl 14 (by decide) kw1211 rfl dX11_said_6 ?_
  refine lv_bipush (v := 97) C.1 C.2.1 dX11_said_9 (by decide) ?_
  refine x_iald (v := 0) C hw 1 rfl (x_in rfl) nw0_97 dX11_said_11 ?_
  refine lv_if_ne (tgt := 17) C.1 C.2.1 dX11_said_12 (by decide) (fun h9 => absurd (by decide) h9) (fun _ => ?_)
  refine lv_iconst (v := (-1)) C.1 C.2.1 dX11_said_15 (by decide) ?_
  have hw := hw.sub (w' := []) [] rfl rfl
  exact x_reti B hw ⟨rfl, rfl⟩ (Nat.le_of_ble_eq_true rfl) (Nat.le_of_ble_eq_true rfl) dX11_said_16
theorem dX11_drawn_0 : decode cX11_drawn 0 = .ok (.aload_n 0, 1) := by decide +kernel
theorem dX11_drawn_1 : decode cX11_drawn 1 = .ok (.iconst 0, 1) := by decide +kernel
theorem dX11_drawn_2 : decode cX11_drawn 2 = .ok (.putfield 1, 3) := by decide +kernel
theorem dX11_drawn_5 : decode cX11_drawn 5 = .ok (.iload_n 1, 1) := by decide +kernel
theorem dX11_drawn_6 : decode cX11_drawn 6 = .ok (.iconst 1, 1) := by decide +kernel
theorem dX11_drawn_7 : decode cX11_drawn 7 = .ok (.bipush 24, 2) := by decide +kernel
theorem dX11_drawn_9 : decode cX11_drawn 9 = .ok (.invokestatic 75, 3) := by decide +kernel
theorem dX11_drawn_12 : decode cX11_drawn 12 = .ok (.ifCond .eq 12, 3) := by decide +kernel
theorem dX11_drawn_24 : decode cX11_drawn 24 = .ok (.iconst (-1), 1) := by decide +kernel
theorem dX11_drawn_25 : decode cX11_drawn 25 = .ok (.ireturn, 1) := by decide +kernel
set_option maxHeartbeats 4000000 in
set_option maxRecDepth 100000 in
theorem c_X11_drawn__B {l : Launch} {G : Gc} (qm : Nat) (a1 : Int32) (a2 : Int32) (mtape : Nat) (mnow : Nat) (mread : Nat) (mkept : Nat) (msnaps : Nat) (maside : Nat) (mname : Nat) (mreadName : Nat) (mkeptName : Nat) (misKept : Nat) (monces : Nat) (morder : Nat) (mordered : Nat) (mtext : Nat) (mline : Nat) (mwritten : Nat) (mnode : Nat) (hb : a1 < 1 ∨ 24 < a1) : Ci l yX11_drawn cX11_drawn 3 (some .int) 1 0 0 G [.ref qm, .int a1, .int a2] [(qm, .inr (10, [.int 0, .ref mtape, .int 0, .int 0, .int 0, .int 0, .int 0, .int 0, .int 0, .int 0, .int 0, .int 0, .long 0, .int 0, .ref mnow, .ref mread, .ref mkept, .ref msnaps, .ref maside, .ref mname, .ref mreadName, .ref mkeptName, .ref misKept, .ref monces, .int 0, .ref morder, .ref mordered, .int 0, .int 0, .int 0, .int (-1), .int (-1), .ref mtext, .int 0, .int 0, .ref mline, .ref mwritten, .int 0, .int 0, .ref mnode, .int 0, .int 0, .int 0, .int 0])), (mnow, eI G 339 nw0)] (fun (r9 : Int32) (u9 : va_W) => r9 = (-1) ∧ u9 = []) := by
  refine Ci.of (by decide) (Nat.le_of_ble_eq_true rfl) ?_
  intro p e s m below meth c ls A B hw hl
  have C : CallFix p m c cX11_drawn 3 s _ gw "LanternStateModel" := B.1
  have hl : lv_has ls 3 [(0, .ref qm), (1, .int a1), (2, .int a2)] := hl
  refine lv_aload_n C.1 C.2.1 dX11_drawn_0 rfl (lv_at hl 0 rfl) ?_
  refine lv_iconst (v := 0) C.1 C.2.1 dX11_drawn_1 (by decide) ?_
  refine x_put (w' := [(qm, .inr (10, [.int 0, .ref mtape, .int 0, .int 0, .int 0, .int 0, .int 0, .int 0, .int 0, .int 0, .int 0, .int 0, .long 0, .int 0, .ref mnow, .ref mread, .ref mkept, .ref msnaps, .ref maside, .ref mname, .ref mreadName, .ref mkeptName, .ref misKept, .ref monces, .int 0, .ref morder, .ref mordered, .int 0, .int 0, .int 0, .int (-1), .int (-1), .ref mtext, .int 0, .int 0, .ref mline, .ref mwritten, .int 0, .int 0, .ref mnode, .int 0, .int 0, .int 0, .int 0])), (mnow, eI G 339 nw0)]) C hw iwX11 tyX11_ok nmX11 10 rfl 0 rfl 0 (by decide) kw1197 rfl rfl rfl (Nat.le_of_ble_eq_true rfl) rfl dX11_drawn_2 (fun H locs hw => ?_)
  refine lv_iload_n C.1 C.2.1 dX11_drawn_5 rfl (lv_at hl 1 rfl) ?_
  refine lv_iconst (v := 1) C.1 C.2.1 dX11_drawn_6 (by decide) ?_
  refine lv_bipush (v := 24) C.1 C.2.1 dX11_drawn_7 (by decide) ?_
  refine x_calliS (As := [.int a1, .int 1, .int 24]) (rest := []) (wr := [(qm, .inr (10, [.int 0, .ref mtape, .int 0, .int 0, .int 0, .int 0, .int 0, .int 0, .int 0, .int 0, .int 0, .int 0, .long 0, .int 0, .ref mnow, .ref mread, .ref mkept, .ref msnaps, .ref maside, .ref mname, .ref mreadName, .ref mkeptName, .ref misKept, .ref monces, .int 0, .ref morder, .ref mordered, .int 0, .int 0, .int 0, .int (-1), .int (-1), .ref mtext, .int 0, .int 0, .ref mline, .ref mwritten, .int 0, .int 0, .ref mnode, .int 0, .int 0, .int 0, .int 0])), (mnow, eI G 339 nw0)]) C hw (c_X11_isInF a1 1 24 hb) mwX11_isIn kw1400 [] [0, 1] rfl rfl rfl rfl (by decide) rfl hl.1 rfl (Nat.le_of_ble_eq_true rfl) ⟨(Nat.le_of_ble_eq_true rfl), (Nat.le_of_ble_eq_true rfl)⟩ ⟨(Nat.le_of_ble_eq_true rfl), (Nat.le_of_ble_eq_true rfl)⟩ dX11_drawn_9 (fun r1 u9 H locs hp9 hw => ?_)
  obtain ⟨rfl, rfl⟩ := hp9
  have hw : Wd G s A [(qm, .inr (10, [.int 0, .ref mtape, .int 0, .int 0, .int 0, .int 0, .int 0, .int 0, .int 0, .int 0, .int 0, .int 0, .long 0, .int 0, .ref mnow, .ref mread, .ref mkept, .ref msnaps, .ref maside, .ref mname, .ref mreadName, .ref mkeptName, .ref misKept, .ref monces, .int 0, .ref morder, .ref mordered, .int 0, .int 0, .int 0, .int (-1), .int (-1), .ref mtext, .int 0, .int 0, .ref mline, .ref mwritten, .int 0, .int 0, .ref mnode, .int 0, .int 0, .int 0, .int 0])), (mnow, eI G 339 nw0)] H _ := hw
  refine lv_if_eq (tgt := 24) C.1 C.2.1 dX11_drawn_12 (by decide) (fun _ => ?_) (fun h9 => absurd (by decide) h9)
  refine lv_iconst (v := (-1)) C.1 C.2.1 dX11_drawn_24 (by decide) ?_
  have hw := hw.sub (w' := []) [] rfl rfl
  exact x_reti B hw ⟨rfl, rfl⟩ (Nat.le_of_ble_eq_true rfl) (Nat.le_of_ble_eq_true rfl) dX11_drawn_25
theorem dX11_drawn_15 : decode cX11_drawn 15 = .ok (.aload_n 0, 1) := by decide +kernel
theorem dX11_drawn_16 : decode cX11_drawn 16 = .ok (.getfield 98, 3) := by decide +kernel
theorem dX11_drawn_19 : decode cX11_drawn 19 = .ok (.iconst 0, 1) := by decide +kernel
theorem dX11_drawn_20 : decode cX11_drawn 20 = .ok (.iaload, 1) := by decide +kernel
theorem dX11_drawn_21 : decode cX11_drawn 21 = .ok (.ifCond .ne 5, 3) := by decide +kernel
set_option maxHeartbeats 4000000 in
set_option maxRecDepth 100000 in
theorem c_X11_drawn__G {l : Launch} {G : Gc} (qm : Nat) (a1 : Int32) (a2 : Int32) (mtape : Nat) (mnow : Nat) (mread : Nat) (mkept : Nat) (msnaps : Nat) (maside : Nat) (mname : Nat) (mreadName : Nat) (mkeptName : Nat) (misKept : Nat) (monces : Nat) (morder : Nat) (mordered : Nat) (mtext : Nat) (mline : Nat) (mwritten : Nat) (mnode : Nat) (h1 : ¬ a1 < 1) (h2 : ¬ 24 < a1) : Ci l yX11_drawn cX11_drawn 3 (some .int) 1 0 0 G [.ref qm, .int a1, .int a2] [(qm, .inr (10, [.int 0, .ref mtape, .int 0, .int 0, .int 0, .int 0, .int 0, .int 0, .int 0, .int 0, .int 0, .int 0, .long 0, .int 0, .ref mnow, .ref mread, .ref mkept, .ref msnaps, .ref maside, .ref mname, .ref mreadName, .ref mkeptName, .ref misKept, .ref monces, .int 0, .ref morder, .ref mordered, .int 0, .int 0, .int 0, .int (-1), .int (-1), .ref mtext, .int 0, .int 0, .ref mline, .ref mwritten, .int 0, .int 0, .ref mnode, .int 0, .int 0, .int 0, .int 0])), (mnow, eI G 339 nw0)] (fun (r9 : Int32) (u9 : va_W) => r9 = (-1) ∧ u9 = []) := by
  refine Ci.of (by decide) (Nat.le_of_ble_eq_true rfl) ?_
  intro p e s m below meth c ls A B hw hl
  have C : CallFix p m c cX11_drawn 3 s _ gw "LanternStateModel" := B.1
  have hl : lv_has ls 3 [(0, .ref qm), (1, .int a1), (2, .int a2)] := hl
  refine lv_aload_n C.1 C.2.1 dX11_drawn_0 rfl (lv_at hl 0 rfl) ?_
  refine lv_iconst (v := 0) C.1 C.2.1 dX11_drawn_1 (by decide) ?_
  refine x_put (w' := [(qm, .inr (10, [.int 0, .ref mtape, .int 0, .int 0, .int 0, .int 0, .int 0, .int 0, .int 0, .int 0, .int 0, .int 0, .long 0, .int 0, .ref mnow, .ref mread, .ref mkept, .ref msnaps, .ref maside, .ref mname, .ref mreadName, .ref mkeptName, .ref misKept, .ref monces, .int 0, .ref morder, .ref mordered, .int 0, .int 0, .int 0, .int (-1), .int (-1), .ref mtext, .int 0, .int 0, .ref mline, .ref mwritten, .int 0, .int 0, .ref mnode, .int 0, .int 0, .int 0, .int 0])), (mnow, eI G 339 nw0)]) C hw iwX11 tyX11_ok nmX11 10 rfl 0 rfl 0 (by decide) kw1197 rfl rfl rfl (Nat.le_of_ble_eq_true rfl) rfl dX11_drawn_2 (fun H locs hw => ?_)
  refine lv_iload_n C.1 C.2.1 dX11_drawn_5 rfl (lv_at hl 1 rfl) ?_
  refine lv_iconst (v := 1) C.1 C.2.1 dX11_drawn_6 (by decide) ?_
  refine lv_bipush (v := 24) C.1 C.2.1 dX11_drawn_7 (by decide) ?_
  refine x_calliS (As := [.int a1, .int 1, .int 24]) (rest := []) (wr := [(qm, .inr (10, [.int 0, .ref mtape, .int 0, .int 0, .int 0, .int 0, .int 0, .int 0, .int 0, .int 0, .int 0, .int 0, .long 0, .int 0, .ref mnow, .ref mread, .ref mkept, .ref msnaps, .ref maside, .ref mname, .ref mreadName, .ref mkeptName, .ref misKept, .ref monces, .int 0, .ref morder, .ref mordered, .int 0, .int 0, .int 0, .int (-1), .int (-1), .ref mtext, .int 0, .int 0, .ref mline, .ref mwritten, .int 0, .int 0, .ref mnode, .int 0, .int 0, .int 0, .int 0])), (mnow, eI G 339 nw0)]) C hw (c_X11_isInT a1 1 24 h1 h2) mwX11_isIn kw1400 [] [0, 1] rfl rfl rfl rfl (by decide) rfl hl.1 rfl (Nat.le_of_ble_eq_true rfl) ⟨(Nat.le_of_ble_eq_true rfl), (Nat.le_of_ble_eq_true rfl)⟩ ⟨(Nat.le_of_ble_eq_true rfl), (Nat.le_of_ble_eq_true rfl)⟩ dX11_drawn_9 (fun r1 u9 H locs hp9 hw => ?_)
  obtain ⟨rfl, rfl⟩ := hp9
  have hw : Wd G s A [(qm, .inr (10, [.int 0, .ref mtape, .int 0, .int 0, .int 0, .int 0, .int 0, .int 0, .int 0, .int 0, .int 0, .int 0, .long 0, .int 0, .ref mnow, .ref mread, .ref mkept, .ref msnaps, .ref maside, .ref mname, .ref mreadName, .ref mkeptName, .ref misKept, .ref monces, .int 0, .ref morder, .ref mordered, .int 0, .int 0, .int 0, .int (-1), .int (-1), .ref mtext, .int 0, .int 0, .ref mline, .ref mwritten, .int 0, .int 0, .ref mnode, .int 0, .int 0, .int 0, .int 0])), (mnow, eI G 339 nw0)] H _ := hw
  refine lv_if_eq (tgt := 24) C.1 C.2.1 dX11_drawn_12 (by decide) (fun h9 => absurd h9 (by decide)) (fun _ => ?_)
  refine lv_aload_n C.1 C.2.1 dX11_drawn_15 rfl (lv_at hl 0 rfl) ?_
  refine x_get C hw iwX11 10 rfl 0 rfl 14 (by decide) kw1211 rfl dX11_drawn_16 ?_
  refine lv_iconst (v := 0) C.1 C.2.1 dX11_drawn_19 (by decide) ?_
  refine x_iald (v := 0) C hw 1 rfl (x_in rfl) nw0_0 dX11_drawn_20 ?_
  refine lv_if_ne (tgt := 26) C.1 C.2.1 dX11_drawn_21 (by decide) (fun h9 => absurd (by decide) h9) (fun _ => ?_)
  refine lv_iconst (v := (-1)) C.1 C.2.1 dX11_drawn_24 (by decide) ?_
  have hw := hw.sub (w' := []) [] rfl rfl
  exact x_reti B hw ⟨rfl, rfl⟩ (Nat.le_of_ble_eq_true rfl) (Nat.le_of_ble_eq_true rfl) dX11_drawn_25
theorem dX11_restore_0 : decode cX11_restore 0 = .ok (.aload_n 0, 1) := by decide +kernel
theorem dX11_restore_1 : decode cX11_restore 1 = .ok (.iconst 0, 1) := by decide +kernel
theorem dX11_restore_2 : decode cX11_restore 2 = .ok (.putfield 1, 3) := by decide +kernel
theorem dX11_restore_5 : decode cX11_restore 5 = .ok (.iload_n 1, 1) := by decide +kernel
theorem dX11_restore_6 : decode cX11_restore 6 = .ok (.iconst 0, 1) := by decide +kernel
theorem dX11_restore_7 : decode cX11_restore 7 = .ok (.iconst 1, 1) := by decide +kernel
theorem dX11_restore_8 : decode cX11_restore 8 = .ok (.invokestatic 75, 3) := by decide +kernel
theorem dX11_restore_11 : decode cX11_restore 11 = .ok (.ifCond .eq 12, 3) := by decide +kernel
theorem dX11_restore_23 : decode cX11_restore 23 = .ok (.iconst 0, 1) := by decide +kernel
theorem dX11_restore_24 : decode cX11_restore 24 = .ok (.ireturn, 1) := by decide +kernel
set_option maxHeartbeats 4000000 in
set_option maxRecDepth 100000 in
theorem c_X11_restore__N {l : Launch} {G : Gc} (qm : Nat) (a1 : Int32) (mtape : Nat) (mnow : Nat) (mread : Nat) (mkept : Nat) (msnaps : Nat) (maside : Nat) (mname : Nat) (mreadName : Nat) (mkeptName : Nat) (misKept : Nat) (monces : Nat) (morder : Nat) (mordered : Nat) (mtext : Nat) (mline : Nat) (mwritten : Nat) (mnode : Nat) (hb : a1 < 0 ∨ 1 < a1) : Ci l yX11_restore cX11_restore 3 (some .boolean) 1 0 0 G [.ref qm, .int a1] [(qm, .inr (10, [.int 0, .ref mtape, .int 0, .int 0, .int 0, .int 0, .int 0, .int 0, .int 0, .int 0, .int 0, .int 0, .long 0, .int 0, .ref mnow, .ref mread, .ref mkept, .ref msnaps, .ref maside, .ref mname, .ref mreadName, .ref mkeptName, .ref misKept, .ref monces, .int 0, .ref morder, .ref mordered, .int 0, .int 0, .int 0, .int (-1), .int (-1), .ref mtext, .int 0, .int 0, .ref mline, .ref mwritten, .int 0, .int 0, .ref mnode, .int 0, .int 0, .int 0, .int 0]))] (fun (r9 : Int32) (u9 : va_W) => r9 = 0 ∧ u9 = []) := by
  refine Ci.of (by decide) (Nat.le_of_ble_eq_true rfl) ?_
  intro p e s m below meth c ls A B hw hl
  have C : CallFix p m c cX11_restore 3 s _ gw "LanternStateModel" := B.1
  have hl : lv_has ls 3 [(0, .ref qm), (1, .int a1)] := hl
  refine lv_aload_n C.1 C.2.1 dX11_restore_0 rfl (lv_at hl 0 rfl) ?_
  refine lv_iconst (v := 0) C.1 C.2.1 dX11_restore_1 (by decide) ?_
  refine x_put (w' := [(qm, .inr (10, [.int 0, .ref mtape, .int 0, .int 0, .int 0, .int 0, .int 0, .int 0, .int 0, .int 0, .int 0, .int 0, .long 0, .int 0, .ref mnow, .ref mread, .ref mkept, .ref msnaps, .ref maside, .ref mname, .ref mreadName, .ref mkeptName, .ref misKept, .ref monces, .int 0, .ref morder, .ref mordered, .int 0, .int 0, .int 0, .int (-1), .int (-1), .ref mtext, .int 0, .int 0, .ref mline, .ref mwritten, .int 0, .int 0, .ref mnode, .int 0, .int 0, .int 0, .int 0]))]) C hw iwX11 tyX11_ok nmX11 10 rfl 0 rfl 0 (by decide) kw1197 rfl rfl rfl (Nat.le_of_ble_eq_true rfl) rfl dX11_restore_2 (fun H locs hw => ?_)
  refine lv_iload_n C.1 C.2.1 dX11_restore_5 rfl (lv_at hl 1 rfl) ?_
  refine lv_iconst (v := 0) C.1 C.2.1 dX11_restore_6 (by decide) ?_
  refine lv_iconst (v := 1) C.1 C.2.1 dX11_restore_7 (by decide) ?_
  refine x_calliS (As := [.int a1, .int 0, .int 1]) (rest := []) (wr := [(qm, .inr (10, [.int 0, .ref mtape, .int 0, .int 0, .int 0, .int 0, .int 0, .int 0, .int 0, .int 0, .int 0, .int 0, .long 0, .int 0, .ref mnow, .ref mread, .ref mkept, .ref msnaps, .ref maside, .ref mname, .ref mreadName, .ref mkeptName, .ref misKept, .ref monces, .int 0, .ref morder, .ref mordered, .int 0, .int 0, .int 0, .int (-1), .int (-1), .ref mtext, .int 0, .int 0, .ref mline, .ref mwritten, .int 0, .int 0, .ref mnode, .int 0, .int 0, .int 0, .int 0]))]) C hw (c_X11_isInF a1 0 1 hb) mwX11_isIn kw1400 [] [0] rfl rfl rfl rfl (by decide) rfl hl.1 rfl (Nat.le_of_ble_eq_true rfl) ⟨(Nat.le_of_ble_eq_true rfl), (Nat.le_of_ble_eq_true rfl)⟩ ⟨(Nat.le_of_ble_eq_true rfl), (Nat.le_of_ble_eq_true rfl)⟩ dX11_restore_8 (fun r1 u9 H locs hp9 hw => ?_)
  obtain ⟨rfl, rfl⟩ := hp9
  have hw : Wd G s A [(qm, .inr (10, [.int 0, .ref mtape, .int 0, .int 0, .int 0, .int 0, .int 0, .int 0, .int 0, .int 0, .int 0, .int 0, .long 0, .int 0, .ref mnow, .ref mread, .ref mkept, .ref msnaps, .ref maside, .ref mname, .ref mreadName, .ref mkeptName, .ref misKept, .ref monces, .int 0, .ref morder, .ref mordered, .int 0, .int 0, .int 0, .int (-1), .int (-1), .ref mtext, .int 0, .int 0, .ref mline, .ref mwritten, .int 0, .int 0, .ref mnode, .int 0, .int 0, .int 0, .int 0]))] H _ := hw
  refine lv_if_eq (tgt := 23) C.1 C.2.1 dX11_restore_11 (by decide) (fun _ => ?_) (fun h9 => absurd (by decide) h9)
  refine lv_iconst (v := 0) C.1 C.2.1 dX11_restore_23 (by decide) ?_
  have hw := hw.sub (w' := []) [] rfl rfl
  exact x_retz B hw rfl ⟨rfl, rfl⟩ (Nat.le_of_ble_eq_true rfl) (Nat.le_of_ble_eq_true rfl) dX11_restore_24
theorem dX11_image_0 : decode cX11_image 0 = .ok (.aload_n 0, 1) := by decide +kernel
theorem dX11_image_1 : decode cX11_image 1 = .ok (.iconst 0, 1) := by decide +kernel
theorem dX11_image_2 : decode cX11_image 2 = .ok (.putfield 1, 3) := by decide +kernel
theorem dX11_image_5 : decode cX11_image 5 = .ok (.iload_n 1, 1) := by decide +kernel
theorem dX11_image_6 : decode cX11_image 6 = .ok (.iconst 0, 1) := by decide +kernel
theorem dX11_image_7 : decode cX11_image 7 = .ok (.iconst 1, 1) := by decide +kernel
theorem dX11_image_8 : decode cX11_image 8 = .ok (.invokestatic 75, 3) := by decide +kernel
theorem dX11_image_11 : decode cX11_image 11 = .ok (.ifCond .ne 5, 3) := by decide +kernel
theorem dX11_image_14 : decode cX11_image 14 = .ok (.iconst 0, 1) := by decide +kernel
theorem dX11_image_15 : decode cX11_image 15 = .ok (.ireturn, 1) := by decide +kernel
set_option maxHeartbeats 4000000 in
set_option maxRecDepth 100000 in
theorem c_X11_image__N {l : Launch} {G : Gc} (qm : Nat) (a1 : Int32) (mtape : Nat) (mnow : Nat) (mread : Nat) (mkept : Nat) (msnaps : Nat) (maside : Nat) (mname : Nat) (mreadName : Nat) (mkeptName : Nat) (misKept : Nat) (monces : Nat) (morder : Nat) (mordered : Nat) (mtext : Nat) (mline : Nat) (mwritten : Nat) (mnode : Nat) (hb : a1 < 0 ∨ 1 < a1) : Ci l yX11_image cX11_image 3 (some .boolean) 1 0 0 G [.ref qm, .int a1] [(qm, .inr (10, [.int 0, .ref mtape, .int 0, .int 0, .int 0, .int 0, .int 0, .int 0, .int 0, .int 0, .int 0, .int 0, .long 0, .int 0, .ref mnow, .ref mread, .ref mkept, .ref msnaps, .ref maside, .ref mname, .ref mreadName, .ref mkeptName, .ref misKept, .ref monces, .int 0, .ref morder, .ref mordered, .int 0, .int 0, .int 0, .int (-1), .int (-1), .ref mtext, .int 0, .int 0, .ref mline, .ref mwritten, .int 0, .int 0, .ref mnode, .int 0, .int 0, .int 0, .int 0]))] (fun (r9 : Int32) (u9 : va_W) => r9 = 0 ∧ u9 = []) := by
  refine Ci.of (by decide) (Nat.le_of_ble_eq_true rfl) ?_
  intro p e s m below meth c ls A B hw hl
  have C : CallFix p m c cX11_image 3 s _ gw "LanternStateModel" := B.1
  have hl : lv_has ls 3 [(0, .ref qm), (1, .int a1)] := hl
  refine lv_aload_n C.1 C.2.1 dX11_image_0 rfl (lv_at hl 0 rfl) ?_
  refine lv_iconst (v := 0) C.1 C.2.1 dX11_image_1 (by decide) ?_
  refine x_put (w' := [(qm, .inr (10, [.int 0, .ref mtape, .int 0, .int 0, .int 0, .int 0, .int 0, .int 0, .int 0, .int 0, .int 0, .int 0, .long 0, .int 0, .ref mnow, .ref mread, .ref mkept, .ref msnaps, .ref maside, .ref mname, .ref mreadName, .ref mkeptName, .ref misKept, .ref monces, .int 0, .ref morder, .ref mordered, .int 0, .int 0, .int 0, .int (-1), .int (-1), .ref mtext, .int 0, .int 0, .ref mline, .ref mwritten, .int 0, .int 0, .ref mnode, .int 0, .int 0, .int 0, .int 0]))]) C hw iwX11 tyX11_ok nmX11 10 rfl 0 rfl 0 (by decide) kw1197 rfl rfl rfl (Nat.le_of_ble_eq_true rfl) rfl dX11_image_2 (fun H locs hw => ?_)
  refine lv_iload_n C.1 C.2.1 dX11_image_5 rfl (lv_at hl 1 rfl) ?_
  refine lv_iconst (v := 0) C.1 C.2.1 dX11_image_6 (by decide) ?_
  refine lv_iconst (v := 1) C.1 C.2.1 dX11_image_7 (by decide) ?_
  refine x_calliS (As := [.int a1, .int 0, .int 1]) (rest := []) (wr := [(qm, .inr (10, [.int 0, .ref mtape, .int 0, .int 0, .int 0, .int 0, .int 0, .int 0, .int 0, .int 0, .int 0, .int 0, .long 0, .int 0, .ref mnow, .ref mread, .ref mkept, .ref msnaps, .ref maside, .ref mname, .ref mreadName, .ref mkeptName, .ref misKept, .ref monces, .int 0, .ref morder, .ref mordered, .int 0, .int 0, .int 0, .int (-1), .int (-1), .ref mtext, .int 0, .int 0, .ref mline, .ref mwritten, .int 0, .int 0, .ref mnode, .int 0, .int 0, .int 0, .int 0]))]) C hw (c_X11_isInF a1 0 1 hb) mwX11_isIn kw1400 [] [0] rfl rfl rfl rfl (by decide) rfl hl.1 rfl (Nat.le_of_ble_eq_true rfl) ⟨(Nat.le_of_ble_eq_true rfl), (Nat.le_of_ble_eq_true rfl)⟩ ⟨(Nat.le_of_ble_eq_true rfl), (Nat.le_of_ble_eq_true rfl)⟩ dX11_image_8 (fun r1 u9 H locs hp9 hw => ?_)
  obtain ⟨rfl, rfl⟩ := hp9
  have hw : Wd G s A [(qm, .inr (10, [.int 0, .ref mtape, .int 0, .int 0, .int 0, .int 0, .int 0, .int 0, .int 0, .int 0, .int 0, .int 0, .long 0, .int 0, .ref mnow, .ref mread, .ref mkept, .ref msnaps, .ref maside, .ref mname, .ref mreadName, .ref mkeptName, .ref misKept, .ref monces, .int 0, .ref morder, .ref mordered, .int 0, .int 0, .int 0, .int (-1), .int (-1), .ref mtext, .int 0, .int 0, .ref mline, .ref mwritten, .int 0, .int 0, .ref mnode, .int 0, .int 0, .int 0, .int 0]))] H _ := hw
  refine lv_if_ne (tgt := 16) C.1 C.2.1 dX11_image_11 (by decide) (fun h9 => absurd (by decide) h9) (fun _ => ?_)
  refine lv_iconst (v := 0) C.1 C.2.1 dX11_image_14 (by decide) ?_
  have hw := hw.sub (w' := []) [] rfl rfl
  exact x_retz B hw rfl ⟨rfl, rfl⟩ (Nat.le_of_ble_eq_true rfl) (Nat.le_of_ble_eq_true rfl) dX11_image_15
theorem dX11_book_0 : decode cX11_book 0 = .ok (.aload_n 0, 1) := by decide +kernel
theorem dX11_book_1 : decode cX11_book 1 = .ok (.iconst 0, 1) := by decide +kernel
theorem dX11_book_2 : decode cX11_book 2 = .ok (.putfield 1, 3) := by decide +kernel
theorem dX11_book_5 : decode cX11_book 5 = .ok (.iload_n 1, 1) := by decide +kernel
theorem dX11_book_6 : decode cX11_book 6 = .ok (.iconst 0, 1) := by decide +kernel
theorem dX11_book_7 : decode cX11_book 7 = .ok (.iconst 1, 1) := by decide +kernel
theorem dX11_book_8 : decode cX11_book 8 = .ok (.invokestatic 75, 3) := by decide +kernel
theorem dX11_book_11 : decode cX11_book 11 = .ok (.ifCond .ne 7, 3) := by decide +kernel
theorem dX11_book_14 : decode cX11_book 14 = .ok (.sipush (-1000), 3) := by decide +kernel
theorem dX11_book_17 : decode cX11_book 17 = .ok (.ireturn, 1) := by decide +kernel
set_option maxHeartbeats 4000000 in
set_option maxRecDepth 100000 in
theorem c_X11_book__N {l : Launch} {G : Gc} (qm : Nat) (a1 : Int32) (mtape : Nat) (mnow : Nat) (mread : Nat) (mkept : Nat) (msnaps : Nat) (maside : Nat) (mname : Nat) (mreadName : Nat) (mkeptName : Nat) (misKept : Nat) (monces : Nat) (morder : Nat) (mordered : Nat) (mtext : Nat) (mline : Nat) (mwritten : Nat) (mnode : Nat) (hb : a1 < 0 ∨ 1 < a1) : Ci l yX11_book cX11_book 4 (some .int) 1 0 0 G [.ref qm, .int a1] [(qm, .inr (10, [.int 0, .ref mtape, .int 0, .int 0, .int 0, .int 0, .int 0, .int 0, .int 0, .int 0, .int 0, .int 0, .long 0, .int 0, .ref mnow, .ref mread, .ref mkept, .ref msnaps, .ref maside, .ref mname, .ref mreadName, .ref mkeptName, .ref misKept, .ref monces, .int 0, .ref morder, .ref mordered, .int 0, .int 0, .int 0, .int (-1), .int (-1), .ref mtext, .int 0, .int 0, .ref mline, .ref mwritten, .int 0, .int 0, .ref mnode, .int 0, .int 0, .int 0, .int 0]))] (fun (r9 : Int32) (u9 : va_W) => r9 = (-1000) ∧ u9 = []) := by
  refine Ci.of (by decide) (Nat.le_of_ble_eq_true rfl) ?_
  intro p e s m below meth c ls A B hw hl
  have C : CallFix p m c cX11_book 4 s _ gw "LanternStateModel" := B.1
  have hl : lv_has ls 4 [(0, .ref qm), (1, .int a1)] := hl
  refine lv_aload_n C.1 C.2.1 dX11_book_0 rfl (lv_at hl 0 rfl) ?_
  refine lv_iconst (v := 0) C.1 C.2.1 dX11_book_1 (by decide) ?_
  refine x_put (w' := [(qm, .inr (10, [.int 0, .ref mtape, .int 0, .int 0, .int 0, .int 0, .int 0, .int 0, .int 0, .int 0, .int 0, .int 0, .long 0, .int 0, .ref mnow, .ref mread, .ref mkept, .ref msnaps, .ref maside, .ref mname, .ref mreadName, .ref mkeptName, .ref misKept, .ref monces, .int 0, .ref morder, .ref mordered, .int 0, .int 0, .int 0, .int (-1), .int (-1), .ref mtext, .int 0, .int 0, .ref mline, .ref mwritten, .int 0, .int 0, .ref mnode, .int 0, .int 0, .int 0, .int 0]))]) C hw iwX11 tyX11_ok nmX11 10 rfl 0 rfl 0 (by decide) kw1197 rfl rfl rfl (Nat.le_of_ble_eq_true rfl) rfl dX11_book_2 (fun H locs hw => ?_)
  refine lv_iload_n C.1 C.2.1 dX11_book_5 rfl (lv_at hl 1 rfl) ?_
  refine lv_iconst (v := 0) C.1 C.2.1 dX11_book_6 (by decide) ?_
  refine lv_iconst (v := 1) C.1 C.2.1 dX11_book_7 (by decide) ?_
  refine x_calliS (As := [.int a1, .int 0, .int 1]) (rest := []) (wr := [(qm, .inr (10, [.int 0, .ref mtape, .int 0, .int 0, .int 0, .int 0, .int 0, .int 0, .int 0, .int 0, .int 0, .int 0, .long 0, .int 0, .ref mnow, .ref mread, .ref mkept, .ref msnaps, .ref maside, .ref mname, .ref mreadName, .ref mkeptName, .ref misKept, .ref monces, .int 0, .ref morder, .ref mordered, .int 0, .int 0, .int 0, .int (-1), .int (-1), .ref mtext, .int 0, .int 0, .ref mline, .ref mwritten, .int 0, .int 0, .ref mnode, .int 0, .int 0, .int 0, .int 0]))]) C hw (c_X11_isInF a1 0 1 hb) mwX11_isIn kw1400 [] [0] rfl rfl rfl rfl (by decide) rfl hl.1 rfl (Nat.le_of_ble_eq_true rfl) ⟨(Nat.le_of_ble_eq_true rfl), (Nat.le_of_ble_eq_true rfl)⟩ ⟨(Nat.le_of_ble_eq_true rfl), (Nat.le_of_ble_eq_true rfl)⟩ dX11_book_8 (fun r1 u9 H locs hp9 hw => ?_)
  obtain ⟨rfl, rfl⟩ := hp9
  have hw : Wd G s A [(qm, .inr (10, [.int 0, .ref mtape, .int 0, .int 0, .int 0, .int 0, .int 0, .int 0, .int 0, .int 0, .int 0, .int 0, .long 0, .int 0, .ref mnow, .ref mread, .ref mkept, .ref msnaps, .ref maside, .ref mname, .ref mreadName, .ref mkeptName, .ref misKept, .ref monces, .int 0, .ref morder, .ref mordered, .int 0, .int 0, .int 0, .int (-1), .int (-1), .ref mtext, .int 0, .int 0, .ref mline, .ref mwritten, .int 0, .int 0, .ref mnode, .int 0, .int 0, .int 0, .int 0]))] H _ := hw
  refine lv_if_ne (tgt := 18) C.1 C.2.1 dX11_book_11 (by decide) (fun h9 => absurd (by decide) h9) (fun _ => ?_)
  refine lv_sipush (v := (-1000)) C.1 C.2.1 dX11_book_14 (by decide) ?_
  have hw := hw.sub (w' := []) [] rfl rfl
  exact x_reti B hw ⟨rfl, rfl⟩ (Nat.le_of_ble_eq_true rfl) (Nat.le_of_ble_eq_true rfl) dX11_book_17
theorem dX11_restore_14 : decode cX11_restore 14 = .ok (.aload_n 0, 1) := by decide +kernel
theorem dX11_restore_15 : decode cX11_restore 15 = .ok (.getfield 123, 3) := by decide +kernel
theorem dX11_restore_18 : decode cX11_restore 18 = .ok (.iload_n 1, 1) := by decide +kernel
theorem dX11_restore_19 : decode cX11_restore 19 = .ok (.baload, 1) := by decide +kernel
theorem dX11_restore_20 : decode cX11_restore 20 = .ok (.ifCond .ne 5, 3) := by decide +kernel
set_option maxHeartbeats 4000000 in
set_option maxRecDepth 100000 in
theorem c_X11_restore__0 {l : Launch} {G : Gc} (qm : Nat) (mtape : Nat) (mnow : Nat) (mread : Nat) (mkept : Nat) (msnaps : Nat) (maside : Nat) (mname : Nat) (mreadName : Nat) (mkeptName : Nat) (misKept : Nat) (monces : Nat) (morder : Nat) (mordered : Nat) (mtext : Nat) (mline : Nat) (mwritten : Nat) (mnode : Nat)  : Ci l yX11_restore cX11_restore 3 (some .boolean) 1 0 0 G [.ref qm, .int 0] [(qm, .inr (10, [.int 0, .ref mtape, .int 0, .int 0, .int 0, .int 0, .int 0, .int 0, .int 0, .int 0, .int 0, .int 0, .long 0, .int 0, .ref mnow, .ref mread, .ref mkept, .ref msnaps, .ref maside, .ref mname, .ref mreadName, .ref mkeptName, .ref misKept, .ref monces, .int 0, .ref morder, .ref mordered, .int 0, .int 0, .int 0, .int (-1), .int (-1), .ref mtext, .int 0, .int 0, .ref mline, .ref mwritten, .int 0, .int 0, .ref mnode, .int 0, .int 0, .int 0, .int 0])), (misKept, eZ G 2 (fun _ => 0))] (fun (r9 : Int32) (u9 : va_W) => r9 = 0 ∧ u9 = []) := by
  refine Ci.of (by decide) (Nat.le_of_ble_eq_true rfl) ?_
  intro p e s m below meth c ls A B hw hl
  have C : CallFix p m c cX11_restore 3 s _ gw "LanternStateModel" := B.1
  have hl : lv_has ls 3 [(0, .ref qm), (1, .int 0)] := hl
  refine lv_aload_n C.1 C.2.1 dX11_restore_0 rfl (lv_at hl 0 rfl) ?_
  refine lv_iconst (v := 0) C.1 C.2.1 dX11_restore_1 (by decide) ?_
  refine x_put (w' := [(qm, .inr (10, [.int 0, .ref mtape, .int 0, .int 0, .int 0, .int 0, .int 0, .int 0, .int 0, .int 0, .int 0, .int 0, .long 0, .int 0, .ref mnow, .ref mread, .ref mkept, .ref msnaps, .ref maside, .ref mname, .ref mreadName, .ref mkeptName, .ref misKept, .ref monces, .int 0, .ref morder, .ref mordered, .int 0, .int 0, .int 0, .int (-1), .int (-1), .ref mtext, .int 0, .int 0, .ref mline, .ref mwritten, .int 0, .int 0, .ref mnode, .int 0, .int 0, .int 0, .int 0])), (misKept, eZ G 2 (fun _ => 0))]) C hw iwX11 tyX11_ok nmX11 10 rfl 0 rfl 0 (by decide) kw1197 rfl rfl rfl (Nat.le_of_ble_eq_true rfl) rfl dX11_restore_2 (fun H locs hw => ?_)
  refine lv_iload_n C.1 C.2.1 dX11_restore_5 rfl (lv_at hl 1 rfl) ?_
  refine lv_iconst (v := 0) C.1 C.2.1 dX11_restore_6 (by decide) ?_
  refine lv_iconst (v := 1) C.1 C.2.1 dX11_restore_7 (by decide) ?_
  refine x_calliS (As := [.int 0, .int 0, .int 1]) (rest := []) (wr := [(qm, .inr (10, [.int 0, .ref mtape, .int 0, .int 0, .int 0, .int 0, .int 0, .int 0, .int 0, .int 0, .int 0, .int 0, .long 0, .int 0, .ref mnow, .ref mread, .ref mkept, .ref msnaps, .ref maside, .ref mname, .ref mreadName, .ref mkeptName, .ref misKept, .ref monces, .int 0, .ref morder, .ref mordered, .int 0, .int 0, .int 0, .int (-1), .int (-1), .ref mtext, .int 0, .int 0, .ref mline, .ref mwritten, .int 0, .int 0, .ref mnode, .int 0, .int 0, .int 0, .int 0])), (misKept, eZ G 2 (fun _ => 0))]) C hw (c_X11_isInT 0 0 1 (by decide) (by decide)) mwX11_isIn kw1400 [] [0, 1] rfl rfl rfl rfl (by decide) rfl hl.1 rfl (Nat.le_of_ble_eq_true rfl) ⟨(Nat.le_of_ble_eq_true rfl), (Nat.le_of_ble_eq_true rfl)⟩ ⟨(Nat.le_of_ble_eq_true rfl), (Nat.le_of_ble_eq_true rfl)⟩ dX11_restore_8 (fun r1 u9 H locs hp9 hw => ?_)
  obtain ⟨rfl, rfl⟩ := hp9
  have hw : Wd G s A [(qm, .inr (10, [.int 0, .ref mtape, .int 0, .int 0, .int 0, .int 0, .int 0, .int 0, .int 0, .int 0, .int 0, .int 0, .long 0, .int 0, .ref mnow, .ref mread, .ref mkept, .ref msnaps, .ref maside, .ref mname, .ref mreadName, .ref mkeptName, .ref misKept, .ref monces, .int 0, .ref morder, .ref mordered, .int 0, .int 0, .int 0, .int (-1), .int (-1), .ref mtext, .int 0, .int 0, .ref mline, .ref mwritten, .int 0, .int 0, .ref mnode, .int 0, .int 0, .int 0, .int 0])), (misKept, eZ G 2 (fun _ => 0))] H _ := hw
  refine lv_if_eq (tgt := 23) C.1 C.2.1 dX11_restore_11 (by decide) (fun h9 => absurd h9 (by decide)) (fun _ => ?_)
  refine lv_aload_n C.1 C.2.1 dX11_restore_14 rfl (lv_at hl 0 rfl) ?_
  refine x_get C hw iwX11 10 rfl 0 rfl 22 (by decide) kw1219 rfl dX11_restore_15 ?_
  refine lv_iload_n C.1 C.2.1 dX11_restore_18 rfl (lv_at hl 1 rfl) ?_
  refine x_zald (v := 0) C hw 1 rfl (x_in rfl) rfl dX11_restore_19 ?_
  refine lv_if_ne (tgt := 25) C.1 C.2.1 dX11_restore_20 (by decide) (fun h9 => absurd (by decide) h9) (fun _ => ?_)
  refine lv_iconst (v := 0) C.1 C.2.1 dX11_restore_23 (by decide) ?_
  have hw := hw.sub (w' := []) [] rfl rfl
  exact x_retz B hw rfl ⟨rfl, rfl⟩ (Nat.le_of_ble_eq_true rfl) (Nat.le_of_ble_eq_true rfl) dX11_restore_24
set_option maxHeartbeats 4000000 in
set_option maxRecDepth 100000 in
theorem c_X11_restore__1 {l : Launch} {G : Gc} (qm : Nat) (mtape : Nat) (mnow : Nat) (mread : Nat) (mkept : Nat) (msnaps : Nat) (maside : Nat) (mname : Nat) (mreadName : Nat) (mkeptName : Nat) (misKept : Nat) (monces : Nat) (morder : Nat) (mordered : Nat) (mtext : Nat) (mline : Nat) (mwritten : Nat) (mnode : Nat)  : Ci l yX11_restore cX11_restore 3 (some .boolean) 1 0 0 G [.ref qm, .int 1] [(qm, .inr (10, [.int 0, .ref mtape, .int 0, .int 0, .int 0, .int 0, .int 0, .int 0, .int 0, .int 0, .int 0, .int 0, .long 0, .int 0, .ref mnow, .ref mread, .ref mkept, .ref msnaps, .ref maside, .ref mname, .ref mreadName, .ref mkeptName, .ref misKept, .ref monces, .int 0, .ref morder, .ref mordered, .int 0, .int 0, .int 0, .int (-1), .int (-1), .ref mtext, .int 0, .int 0, .ref mline, .ref mwritten, .int 0, .int 0, .ref mnode, .int 0, .int 0, .int 0, .int 0])), (misKept, eZ G 2 (fun _ => 0))] (fun (r9 : Int32) (u9 : va_W) => r9 = 0 ∧ u9 = []) := by
  refine Ci.of (by decide) (Nat.le_of_ble_eq_true rfl) ?_
  intro p e s m below meth c ls A B hw hl
  have C : CallFix p m c cX11_restore 3 s _ gw "LanternStateModel" := B.1
  have hl : lv_has ls 3 [(0, .ref qm), (1, .int 1)] := hl
  refine lv_aload_n C.1 C.2.1 dX11_restore_0 rfl (lv_at hl 0 rfl) ?_
  refine lv_iconst (v := 0) C.1 C.2.1 dX11_restore_1 (by decide) ?_
  refine x_put (w' := [(qm, .inr (10, [.int 0, .ref mtape, .int 0, .int 0, .int 0, .int 0, .int 0, .int 0, .int 0, .int 0, .int 0, .int 0, .long 0, .int 0, .ref mnow, .ref mread, .ref mkept, .ref msnaps, .ref maside, .ref mname, .ref mreadName, .ref mkeptName, .ref misKept, .ref monces, .int 0, .ref morder, .ref mordered, .int 0, .int 0, .int 0, .int (-1), .int (-1), .ref mtext, .int 0, .int 0, .ref mline, .ref mwritten, .int 0, .int 0, .ref mnode, .int 0, .int 0, .int 0, .int 0])), (misKept, eZ G 2 (fun _ => 0))]) C hw iwX11 tyX11_ok nmX11 10 rfl 0 rfl 0 (by decide) kw1197 rfl rfl rfl (Nat.le_of_ble_eq_true rfl) rfl dX11_restore_2 (fun H locs hw => ?_)
  refine lv_iload_n C.1 C.2.1 dX11_restore_5 rfl (lv_at hl 1 rfl) ?_
  refine lv_iconst (v := 0) C.1 C.2.1 dX11_restore_6 (by decide) ?_
  refine lv_iconst (v := 1) C.1 C.2.1 dX11_restore_7 (by decide) ?_
  refine x_calliS (As := [.int 1, .int 0, .int 1]) (rest := []) (wr := [(qm, .inr (10, [.int 0, .ref mtape, .int 0, .int 0, .int 0, .int 0, .int 0, .int 0, .int 0, .int 0, .int 0, .int 0, .long 0, .int 0, .ref mnow, .ref mread, .ref mkept, .ref msnaps, .ref maside, .ref mname, .ref mreadName, .ref mkeptName, .ref misKept, .ref monces, .int 0, .ref morder, .ref mordered, .int 0, .int 0, .int 0, .int (-1), .int (-1), .ref mtext, .int 0, .int 0, .ref mline, .ref mwritten, .int 0, .int 0, .ref mnode, .int 0, .int 0, .int 0, .int 0])), (misKept, eZ G 2 (fun _ => 0))]) C hw (c_X11_isInT 1 0 1 (by decide) (by decide)) mwX11_isIn kw1400 [] [0, 1] rfl rfl rfl rfl (by decide) rfl hl.1 rfl (Nat.le_of_ble_eq_true rfl) ⟨(Nat.le_of_ble_eq_true rfl), (Nat.le_of_ble_eq_true rfl)⟩ ⟨(Nat.le_of_ble_eq_true rfl), (Nat.le_of_ble_eq_true rfl)⟩ dX11_restore_8 (fun r1 u9 H locs hp9 hw => ?_)
  obtain ⟨rfl, rfl⟩ := hp9
  have hw : Wd G s A [(qm, .inr (10, [.int 0, .ref mtape, .int 0, .int 0, .int 0, .int 0, .int 0, .int 0, .int 0, .int 0, .int 0, .int 0, .long 0, .int 0, .ref mnow, .ref mread, .ref mkept, .ref msnaps, .ref maside, .ref mname, .ref mreadName, .ref mkeptName, .ref misKept, .ref monces, .int 0, .ref morder, .ref mordered, .int 0, .int 0, .int 0, .int (-1), .int (-1), .ref mtext, .int 0, .int 0, .ref mline, .ref mwritten, .int 0, .int 0, .ref mnode, .int 0, .int 0, .int 0, .int 0])), (misKept, eZ G 2 (fun _ => 0))] H _ := hw
  refine lv_if_eq (tgt := 23) C.1 C.2.1 dX11_restore_11 (by decide) (fun h9 => absurd h9 (by decide)) (fun _ => ?_)
  refine lv_aload_n C.1 C.2.1 dX11_restore_14 rfl (lv_at hl 0 rfl) ?_
  refine x_get C hw iwX11 10 rfl 0 rfl 22 (by decide) kw1219 rfl dX11_restore_15 ?_
  refine lv_iload_n C.1 C.2.1 dX11_restore_18 rfl (lv_at hl 1 rfl) ?_
  refine x_zald (v := 0) C hw 1 rfl (x_in rfl) rfl dX11_restore_19 ?_
  refine lv_if_ne (tgt := 25) C.1 C.2.1 dX11_restore_20 (by decide) (fun h9 => absurd (by decide) h9) (fun _ => ?_)
  refine lv_iconst (v := 0) C.1 C.2.1 dX11_restore_23 (by decide) ?_
  have hw := hw.sub (w' := []) [] rfl rfl
  exact x_retz B hw rfl ⟨rfl, rfl⟩ (Nat.le_of_ble_eq_true rfl) (Nat.le_of_ble_eq_true rfl) dX11_restore_24
theorem dX11_hours_0 : decode cX11_hours 0 = .ok (.aload_n 0, 1) := by decide +kernel
theorem dX11_hours_1 : decode cX11_hours 1 = .ok (.iconst 0, 1) := by decide +kernel
theorem dX11_hours_2 : decode cX11_hours 2 = .ok (.putfield 1, 3) := by decide +kernel
theorem dX11_hours_5 : decode cX11_hours 5 = .ok (.iload_n 1, 1) := by decide +kernel
theorem dX11_hours_6 : decode cX11_hours 6 = .ok (.iconst 1, 1) := by decide +kernel
theorem dX11_hours_7 : decode cX11_hours 7 = .ok (.bipush 24, 2) := by decide +kernel
theorem dX11_hours_9 : decode cX11_hours 9 = .ok (.invokestatic 75, 3) := by decide +kernel
theorem dX11_hours_12 : decode cX11_hours 12 = .ok (.ifCond .ne 5, 3) := by decide +kernel
theorem dX11_hours_15 : decode cX11_hours 15 = .ok (.iconst (-1), 1) := by decide +kernel
theorem dX11_hours_16 : decode cX11_hours 16 = .ok (.ireturn, 1) := by decide +kernel
set_option maxHeartbeats 4000000 in
set_option maxRecDepth 100000 in
theorem c_X11_hours__B {l : Launch} {G : Gc} (qm : Nat) (a1 : Int32) (mtape : Nat) (mnow : Nat) (mread : Nat) (mkept : Nat) (msnaps : Nat) (maside : Nat) (mname : Nat) (mreadName : Nat) (mkeptName : Nat) (misKept : Nat) (monces : Nat) (morder : Nat) (mordered : Nat) (mtext : Nat) (mline : Nat) (mwritten : Nat) (mnode : Nat) (hb : a1 < 1 ∨ 24 < a1) : Ci l yX11_hours cX11_hours 2 (some .int) 1 0 0 G [.ref qm, .int a1] [(qm, .inr (10, [.int 0, .ref mtape, .int 0, .int 0, .int 0, .int 0, .int 0, .int 0, .int 0, .int 0, .int 0, .int 0, .long 0, .int 0, .ref mnow, .ref mread, .ref mkept, .ref msnaps, .ref maside, .ref mname, .ref mreadName, .ref mkeptName, .ref misKept, .ref monces, .int 0, .ref morder, .ref mordered, .int 0, .int 0, .int 0, .int (-1), .int (-1), .ref mtext, .int 0, .int 0, .ref mline, .ref mwritten, .int 0, .int 0, .ref mnode, .int 0, .int 0, .int 0, .int 0]))] (fun (r9 : Int32) (u9 : va_W) => r9 = (-1) ∧ u9 = []) := by
  refine Ci.of (by decide) (Nat.le_of_ble_eq_true rfl) ?_
  intro p e s m below meth c ls A B hw hl
  have C : CallFix p m c cX11_hours 2 s _ gw "LanternStateModel" := B.1
  have hl : lv_has ls 2 [(0, .ref qm), (1, .int a1)] := hl
  refine lv_aload_n C.1 C.2.1 dX11_hours_0 rfl (lv_at hl 0 rfl) ?_
  refine lv_iconst (v := 0) C.1 C.2.1 dX11_hours_1 (by decide) ?_
  refine x_put (w' := [(qm, .inr (10, [.int 0, .ref mtape, .int 0, .int 0, .int 0, .int 0, .int 0, .int 0, .int 0, .int 0, .int 0, .int 0, .long 0, .int 0, .ref mnow, .ref mread, .ref mkept, .ref msnaps, .ref maside, .ref mname, .ref mreadName, .ref mkeptName, .ref misKept, .ref monces, .int 0, .ref morder, .ref mordered, .int 0, .int 0, .int 0, .int (-1), .int (-1), .ref mtext, .int 0, .int 0, .ref mline, .ref mwritten, .int 0, .int 0, .ref mnode, .int 0, .int 0, .int 0, .int 0]))]) C hw iwX11 tyX11_ok nmX11 10 rfl 0 rfl 0 (by decide) kw1197 rfl rfl rfl (Nat.le_of_ble_eq_true rfl) rfl dX11_hours_2 (fun H locs hw => ?_)
  refine lv_iload_n C.1 C.2.1 dX11_hours_5 rfl (lv_at hl 1 rfl) ?_
  refine lv_iconst (v := 1) C.1 C.2.1 dX11_hours_6 (by decide) ?_
  refine lv_bipush (v := 24) C.1 C.2.1 dX11_hours_7 (by decide) ?_
  refine x_calliS (As := [.int a1, .int 1, .int 24]) (rest := []) (wr := [(qm, .inr (10, [.int 0, .ref mtape, .int 0, .int 0, .int 0, .int 0, .int 0, .int 0, .int 0, .int 0, .int 0, .int 0, .long 0, .int 0, .ref mnow, .ref mread, .ref mkept, .ref msnaps, .ref maside, .ref mname, .ref mreadName, .ref mkeptName, .ref misKept, .ref monces, .int 0, .ref morder, .ref mordered, .int 0, .int 0, .int 0, .int (-1), .int (-1), .ref mtext, .int 0, .int 0, .ref mline, .ref mwritten, .int 0, .int 0, .ref mnode, .int 0, .int 0, .int 0, .int 0]))]) C hw (c_X11_isInF a1 1 24 hb) mwX11_isIn kw1400 [] [0] rfl rfl rfl rfl (by decide) rfl hl.1 rfl (Nat.le_of_ble_eq_true rfl) ⟨(Nat.le_of_ble_eq_true rfl), (Nat.le_of_ble_eq_true rfl)⟩ ⟨(Nat.le_of_ble_eq_true rfl), (Nat.le_of_ble_eq_true rfl)⟩ dX11_hours_9 (fun r1 u9 H locs hp9 hw => ?_)
  obtain ⟨rfl, rfl⟩ := hp9
  have hw : Wd G s A [(qm, .inr (10, [.int 0, .ref mtape, .int 0, .int 0, .int 0, .int 0, .int 0, .int 0, .int 0, .int 0, .int 0, .int 0, .long 0, .int 0, .ref mnow, .ref mread, .ref mkept, .ref msnaps, .ref maside, .ref mname, .ref mreadName, .ref mkeptName, .ref misKept, .ref monces, .int 0, .ref morder, .ref mordered, .int 0, .int 0, .int 0, .int (-1), .int (-1), .ref mtext, .int 0, .int 0, .ref mline, .ref mwritten, .int 0, .int 0, .ref mnode, .int 0, .int 0, .int 0, .int 0]))] H _ := hw
  refine lv_if_ne (tgt := 17) C.1 C.2.1 dX11_hours_12 (by decide) (fun h9 => absurd (by decide) h9) (fun _ => ?_)
  refine lv_iconst (v := (-1)) C.1 C.2.1 dX11_hours_15 (by decide) ?_
  have hw := hw.sub (w' := []) [] rfl rfl
  exact x_reti B hw ⟨rfl, rfl⟩ (Nat.le_of_ble_eq_true rfl) (Nat.le_of_ble_eq_true rfl) dX11_hours_16
