theorem dX11_go_0 : decode cX11_go 0 = .ok (.aload_n 0, 1) := by decide +kernel
theorem dX11_go_1 : decode cX11_go 1 = .ok (.getfield 21, 3) := by decide +kernel
theorem dX11_go_4 : decode cX11_go 4 = .ok (.aload_n 0, 1) := by decide +kernel
theorem dX11_go_5 : decode cX11_go 5 = .ok (.getfield 18, 3) := by decide +kernel
theorem dX11_go_8 : decode cX11_go 8 = .ok (.if_icmp .ge 44, 3) := by decide +kernel
theorem dX11_go_52 : decode cX11_go 52 = .ok (.aload_n 0, 1) := by decide +kernel
theorem dX11_go_53 : decode cX11_go 53 = .ok (.aload_n 0, 1) := by decide +kernel
theorem dX11_go_54 : decode cX11_go 54 = .ok (.getfield 21, 3) := by decide +kernel
theorem dX11_go_57 : decode cX11_go 57 = .ok (.putfield 24, 3) := by decide +kernel
theorem dX11_go_60 : decode cX11_go 60 = .ok (.aload_n 0, 1) := by decide +kernel
theorem dX11_go_61 : decode cX11_go 61 = .ok (.getfield 18, 3) := by decide +kernel
theorem dX11_go_64 : decode cX11_go 64 = .ok (.aload_n 0, 1) := by decide +kernel
theorem dX11_go_65 : decode cX11_go 65 = .ok (.getfield 27, 3) := by decide +kernel
theorem dX11_go_68 : decode cX11_go 68 = .ok (.if_icmp .le 28, 3) := by decide +kernel
theorem dX11_go_96 : decode cX11_go 96 = .ok (.aload_n 0, 1) := by decide +kernel
theorem dX11_go_97 : decode cX11_go 97 = .ok (.getfield 21, 3) := by decide +kernel
theorem dX11_go_100 : decode cX11_go 100 = .ok (.aload_n 0, 1) := by decide +kernel
theorem dX11_go_101 : decode cX11_go 101 = .ok (.getfield 18, 3) := by decide +kernel
theorem dX11_go_104 : decode cX11_go 104 = .ok (.if_icmp .lt 9, 3) := by decide +kernel
theorem dX11_go_107 : decode cX11_go 107 = .ok (.aload_n 0, 1) := by decide +kernel
theorem dX11_go_108 : decode cX11_go 108 = .ok (.iconst 0, 1) := by decide +kernel
theorem dX11_go_109 : decode cX11_go 109 = .ok (.putfield 30, 3) := by decide +kernel
theorem dX11_go_112 : decode cX11_go 112 = .ok (.return_, 1) := by decide +kernel
set_option maxHeartbeats 4000000 in
set_option maxRecDepth 100000 in
theorem c_X11_go {l : Launch} {G : Gc} (qm : Nat) (mtape : Nat) (m9 : Int32) (mnow : Nat) (mread : Nat) (mkept : Nat) (msnaps : Nat) (maside : Nat) (mname : Nat) (mreadName : Nat) (mkeptName : Nat) (misKept : Nat) (monces : Nat) (morder : Nat) (mordered : Nat) (mtext : Nat) (mline : Nat) (mwritten : Nat) (mnode : Nat) (hm : (0 : Int32) ≤ m9) : Cv l yX11_go cX11_go 5 0 0 0 G [.ref qm] [(qm, .inr (10, [.int 0, .ref mtape, .int 0, .int 0, .int m9, .int 0, .int 0, .int 0, .int 0, .int 0, .int 0, .int 0, .long 0, .int 0, .ref mnow, .ref mread, .ref mkept, .ref msnaps, .ref maside, .ref mname, .ref mreadName, .ref mkeptName, .ref misKept, .ref monces, .int 0, .ref morder, .ref mordered, .int 0, .int 0, .int 0, .int (-1), .int (-1), .ref mtext, .int 0, .int 0, .ref mline, .ref mwritten, .int 0, .int 0, .ref mnode, .int 0, .int 0, .int 0, .int 0]))] (fun (u9 : va_W) => u9 = [(qm, .inr (10, [.int 0, .ref mtape, .int 0, .int 0, .int m9, .int 0, .int 0, .int 0, .int 0, .int 0, .int 0, .int 0, .long 0, .int 0, .ref mnow, .ref mread, .ref mkept, .ref msnaps, .ref maside, .ref mname, .ref mreadName, .ref mkeptName, .ref misKept, .ref monces, .int 0, .ref morder, .ref mordered, .int 0, .int 0, .int 0, .int (-1), .int (-1), .ref mtext, .int 0, .int 0, .ref mline, .ref mwritten, .int 0, .int 0, .ref mnode, .int 0, .int 0, .int 0, .int 0]))]) := by
  refine Cv.of (by decide) (Nat.le_of_ble_eq_true rfl) ?_
  intro p e s m below meth c ls A B hw hl
  have C : CallFix p m c cX11_go 5 s _ gw "LanternStateModel" := B.1
  have hl : lv_has ls 5 [(0, .ref qm)] := hl
  refine lv_aload_n C.1 C.2.1 dX11_go_0 rfl (lv_at hl 0 rfl) ?_
  refine x_get C hw iwX11 10 rfl 0 rfl 5 (by decide) kw1202 rfl dX11_go_1 ?_
  refine lv_aload_n C.1 C.2.1 dX11_go_4 rfl (lv_at hl 0 rfl) ?_
  refine x_get C hw iwX11 10 rfl 0 rfl 3 (by decide) kw1200 rfl dX11_go_5 ?_
  refine lv_icmp_ge (tgt := 52) C.1 C.2.1 dX11_go_8 (by decide) (fun _ => ?_) (fun h9 => absurd (by decide) h9)
  refine lv_aload_n C.1 C.2.1 dX11_go_52 rfl (lv_at hl 0 rfl) ?_
  refine lv_aload_n C.1 C.2.1 dX11_go_53 rfl (lv_at hl 0 rfl) ?_
  refine x_get C hw iwX11 10 rfl 0 rfl 5 (by decide) kw1202 rfl dX11_go_54 ?_
  refine x_put (w' := [(qm, .inr (10, [.int 0, .ref mtape, .int 0, .int 0, .int m9, .int 0, .int 0, .int 0, .int 0, .int 0, .int 0, .int 0, .long 0, .int 0, .ref mnow, .ref mread, .ref mkept, .ref msnaps, .ref maside, .ref mname, .ref mreadName, .ref mkeptName, .ref misKept, .ref monces, .int 0, .ref morder, .ref mordered, .int 0, .int 0, .int 0, .int (-1), .int (-1), .ref mtext, .int 0, .int 0, .ref mline, .ref mwritten, .int 0, .int 0, .ref mnode, .int 0, .int 0, .int 0, .int 0]))]) C hw iwX11 tyX11_ok nmX11 10 rfl 0 rfl 6 (by decide) kw1203 rfl rfl rfl (Nat.le_of_ble_eq_true rfl) rfl dX11_go_57 (fun H locs hw => ?_)
  refine lv_aload_n C.1 C.2.1 dX11_go_60 rfl (lv_at hl 0 rfl) ?_
  refine x_get C hw iwX11 10 rfl 0 rfl 3 (by decide) kw1200 rfl dX11_go_61 ?_
  refine lv_aload_n C.1 C.2.1 dX11_go_64 rfl (lv_at hl 0 rfl) ?_
  refine x_get C hw iwX11 10 rfl 0 rfl 4 (by decide) kw1201 rfl dX11_go_65 ?_
  refine lv_icmp_le (tgt := 96) C.1 C.2.1 dX11_go_68 (by decide) (fun _ => ?_) (fun h9 => absurd hm h9)
  refine lv_aload_n C.1 C.2.1 dX11_go_96 rfl (lv_at hl 0 rfl) ?_
  refine x_get C hw iwX11 10 rfl 0 rfl 5 (by decide) kw1202 rfl dX11_go_97 ?_
  refine lv_aload_n C.1 C.2.1 dX11_go_100 rfl (lv_at hl 0 rfl) ?_
  refine x_get C hw iwX11 10 rfl 0 rfl 3 (by decide) kw1200 rfl dX11_go_101 ?_
  refine lv_icmp_lt (tgt := 113) C.1 C.2.1 dX11_go_104 (by decide) (fun h9 => absurd h9 (by decide)) (fun _ => ?_)
  refine lv_aload_n C.1 C.2.1 dX11_go_107 rfl (lv_at hl 0 rfl) ?_
  refine lv_iconst (v := 0) C.1 C.2.1 dX11_go_108 (by decide) ?_
  refine x_put (w' := [(qm, .inr (10, [.int 0, .ref mtape, .int 0, .int 0, .int m9, .int 0, .int 0, .int 0, .int 0, .int 0, .int 0, .int 0, .long 0, .int 0, .ref mnow, .ref mread, .ref mkept, .ref msnaps, .ref maside, .ref mname, .ref mreadName, .ref mkeptName, .ref misKept, .ref monces, .int 0, .ref morder, .ref mordered, .int 0, .int 0, .int 0, .int (-1), .int (-1), .ref mtext, .int 0, .int 0, .ref mline, .ref mwritten, .int 0, .int 0, .ref mnode, .int 0, .int 0, .int 0, .int 0]))]) C hw iwX11 tyX11_ok nmX11 10 rfl 0 rfl 7 (by decide) kw1204 rfl rfl rfl (Nat.le_of_ble_eq_true rfl) rfl dX11_go_109 (fun H locs hw => ?_)
  exact x_retv B hw rfl (Nat.le_of_ble_eq_true rfl) (Nat.le_of_ble_eq_true rfl) dX11_go_112
theorem dX11_begin_0 : decode cX11_begin 0 = .ok (.aload_n 0, 1) := by decide +kernel
theorem dX11_begin_1 : decode cX11_begin 1 = .ok (.iconst 0, 1) := by decide +kernel
theorem dX11_begin_2 : decode cX11_begin 2 = .ok (.putfield 1, 3) := by decide +kernel
theorem dX11_begin_5 : decode cX11_begin 5 = .ok (.aload_n 0, 1) := by decide +kernel
theorem dX11_begin_6 : decode cX11_begin 6 = .ok (.aload_n 0, 1) := by decide +kernel
theorem dX11_begin_7 : decode cX11_begin 7 = .ok (.invokevirtual 89, 3) := by decide +kernel
theorem dX11_begin_10 : decode cX11_begin 10 = .ok (.putfield 18, 3) := by decide +kernel
theorem dX11_begin_13 : decode cX11_begin 13 = .ok (.aload_n 0, 1) := by decide +kernel
theorem dX11_begin_14 : decode cX11_begin 14 = .ok (.iload_n 1, 1) := by decide +kernel
theorem dX11_begin_15 : decode cX11_begin 15 = .ok (.putfield 27, 3) := by decide +kernel
theorem dX11_begin_18 : decode cX11_begin 18 = .ok (.aload_n 0, 1) := by decide +kernel
theorem dX11_begin_19 : decode cX11_begin 19 = .ok (.iconst 0, 1) := by decide +kernel
theorem dX11_begin_20 : decode cX11_begin 20 = .ok (.putfield 66, 3) := by decide +kernel
theorem dX11_begin_23 : decode cX11_begin 23 = .ok (.aload_n 0, 1) := by decide +kernel
theorem dX11_begin_24 : decode cX11_begin 24 = .ok (.iconst 0, 1) := by decide +kernel
theorem dX11_begin_25 : decode cX11_begin 25 = .ok (.putfield 21, 3) := by decide +kernel
theorem dX11_begin_28 : decode cX11_begin 28 = .ok (.aload_n 0, 1) := by decide +kernel
theorem dX11_begin_29 : decode cX11_begin 29 = .ok (.invokevirtual 82, 3) := by decide +kernel
theorem mwX11_go : MwV yX11_go cX11_go 5 none 0 := ⟨⟨kw1346, kw15, by decide +kernel⟩, kw1345, kS47⟩
theorem dX11_begin_32 : decode cX11_begin 32 = .ok (.return_, 1) := by decide +kernel
set_option maxHeartbeats 4000000 in
set_option maxRecDepth 100000 in
theorem c_X11_begin {l : Launch} {G : Gc} (qm : Nat) (m9 : Int32) (mtape : Nat) (mnow : Nat) (mread : Nat) (mkept : Nat) (msnaps : Nat) (maside : Nat) (mname : Nat) (mreadName : Nat) (mkeptName : Nat) (misKept : Nat) (monces : Nat) (morder : Nat) (mordered : Nat) (mtext : Nat) (mline : Nat) (mwritten : Nat) (mnode : Nat) (hm : (0 : Int32) ≤ m9) : Cv l yX11_begin cX11_begin 2 1 0 0 G [.ref qm, .int m9] [(qm, .inr (10, [.int 0, .ref mtape, .int 0, .int 0, .int 0, .int 0, .int 0, .int 0, .int 0, .int 0, .int 0, .int 0, .long 0, .int 0, .ref mnow, .ref mread, .ref mkept, .ref msnaps, .ref maside, .ref mname, .ref mreadName, .ref mkeptName, .ref misKept, .ref monces, .int 0, .ref morder, .ref mordered, .int 0, .int 0, .int 0, .int (-1), .int (-1), .ref mtext, .int 0, .int 0, .ref mline, .ref mwritten, .int 0, .int 0, .ref mnode, .int 0, .int 0, .int 0, .int 0]))] (fun (u9 : va_W) => u9 = [(qm, .inr (10, [.int 0, .ref mtape, .int 0, .int 0, .int m9, .int 0, .int 0, .int 0, .int 0, .int 0, .int 0, .int 0, .long 0, .int 0, .ref mnow, .ref mread, .ref mkept, .ref msnaps, .ref maside, .ref mname, .ref mreadName, .ref mkeptName, .ref misKept, .ref monces, .int 0, .ref morder, .ref mordered, .int 0, .int 0, .int 0, .int (-1), .int (-1), .ref mtext, .int 0, .int 0, .ref mline, .ref mwritten, .int 0, .int 0, .ref mnode, .int 0, .int 0, .int 0, .int 0]))]) := by
  refine Cv.of (by decide) (Nat.le_of_ble_eq_true rfl) ?_
  intro p e s m below meth c ls A B hw hl
  have C : CallFix p m c cX11_begin 2 s _ gw "LanternStateModel" := B.1
  have hl : lv_has ls 2 [(0, .ref qm), (1, .int m9)] := hl
  refine lv_aload_n C.1 C.2.1 dX11_begin_0 rfl (lv_at hl 0 rfl) ?_
  refine lv_iconst (v := 0) C.1 C.2.1 dX11_begin_1 (by decide) ?_
  refine x_put (w' := [(qm, .inr (10, [.int 0, .ref mtape, .int 0, .int 0, .int 0, .int 0, .int 0, .int 0, .int 0, .int 0, .int 0, .int 0, .long 0, .int 0, .ref mnow, .ref mread, .ref mkept, .ref msnaps, .ref maside, .ref mname, .ref mreadName, .ref mkeptName, .ref misKept, .ref monces, .int 0, .ref morder, .ref mordered, .int 0, .int 0, .int 0, .int (-1), .int (-1), .ref mtext, .int 0, .int 0, .ref mline, .ref mwritten, .int 0, .int 0, .ref mnode, .int 0, .int 0, .int 0, .int 0]))]) C hw iwX11 tyX11_ok nmX11 10 rfl 0 rfl 0 (by decide) kw1197 rfl rfl rfl (Nat.le_of_ble_eq_true rfl) rfl dX11_begin_2 (fun H locs hw => ?_)
  refine lv_aload_n C.1 C.2.1 dX11_begin_5 rfl (lv_at hl 0 rfl) ?_
  refine lv_aload_n C.1 C.2.1 dX11_begin_6 rfl (lv_at hl 0 rfl) ?_
  refine x_calliV (As := []) (rest := [.ref qm]) (wr := []) C hw (c_X11_take qm mtape mnow mread mkept msnaps maside mname mreadName mkeptName misKept monces morder mordered mtext mline mwritten mnode) mwX11_take kw1339 [0] [] rfl rfl rfl rfl (by decide) 0 rfl rfl rfl rfl hl.1 rfl (Nat.le_of_ble_eq_true rfl) ⟨(Nat.le_of_ble_eq_true rfl), (Nat.le_of_ble_eq_true rfl)⟩ ⟨(Nat.le_of_ble_eq_true rfl), (Nat.le_of_ble_eq_true rfl)⟩ dX11_begin_7 (fun r1 u9 H locs hp9 hw => ?_)
  obtain ⟨rfl, rfl⟩ := hp9
  have hw : Wd G s A [(qm, .inr (10, [.int 0, .ref mtape, .int 0, .int 0, .int 0, .int 0, .int 0, .int 0, .int 0, .int 0, .int 0, .int 0, .long 0, .int 0, .ref mnow, .ref mread, .ref mkept, .ref msnaps, .ref maside, .ref mname, .ref mreadName, .ref mkeptName, .ref misKept, .ref monces, .int 0, .ref morder, .ref mordered, .int 0, .int 0, .int 0, .int (-1), .int (-1), .ref mtext, .int 0, .int 0, .ref mline, .ref mwritten, .int 0, .int 0, .ref mnode, .int 0, .int 0, .int 0, .int 0]))] H _ := hw
  refine x_put (w' := [(qm, .inr (10, [.int 0, .ref mtape, .int 0, .int 0, .int 0, .int 0, .int 0, .int 0, .int 0, .int 0, .int 0, .int 0, .long 0, .int 0, .ref mnow, .ref mread, .ref mkept, .ref msnaps, .ref maside, .ref mname, .ref mreadName, .ref mkeptName, .ref misKept, .ref monces, .int 0, .ref morder, .ref mordered, .int 0, .int 0, .int 0, .int (-1), .int (-1), .ref mtext, .int 0, .int 0, .ref mline, .ref mwritten, .int 0, .int 0, .ref mnode, .int 0, .int 0, .int 0, .int 0]))]) C hw iwX11 tyX11_ok nmX11 10 rfl 0 rfl 3 (by decide) kw1200 rfl rfl rfl (Nat.le_of_ble_eq_true rfl) rfl dX11_begin_10 (fun H locs hw => ?_)
  refine lv_aload_n C.1 C.2.1 dX11_begin_13 rfl (lv_at hl 0 rfl) ?_
  refine lv_iload_n C.1 C.2.1 dX11_begin_14 rfl (lv_at hl 1 rfl) ?_
  refine x_put (w' := [(qm, .inr (10, [.int 0, .ref mtape, .int 0, .int 0, .int m9, .int 0, .int 0, .int 0, .int 0, .int 0, .int 0, .int 0, .long 0, .int 0, .ref mnow, .ref mread, .ref mkept, .ref msnaps, .ref maside, .ref mname, .ref mreadName, .ref mkeptName, .ref misKept, .ref monces, .int 0, .ref morder, .ref mordered, .int 0, .int 0, .int 0, .int (-1), .int (-1), .ref mtext, .int 0, .int 0, .ref mline, .ref mwritten, .int 0, .int 0, .ref mnode, .int 0, .int 0, .int 0, .int 0]))]) C hw iwX11 tyX11_ok nmX11 10 rfl 0 rfl 4 (by decide) kw1201 rfl rfl rfl (Nat.le_of_ble_eq_true rfl) rfl dX11_begin_15 (fun H locs hw => ?_)
  refine lv_aload_n C.1 C.2.1 dX11_begin_18 rfl (lv_at hl 0 rfl) ?_
  refine lv_iconst (v := 0) C.1 C.2.1 dX11_begin_19 (by decide) ?_
  refine x_put (w' := [(qm, .inr (10, [.int 0, .ref mtape, .int 0, .int 0, .int m9, .int 0, .int 0, .int 0, .int 0, .int 0, .int 0, .int 0, .long 0, .int 0, .ref mnow, .ref mread, .ref mkept, .ref msnaps, .ref maside, .ref mname, .ref mreadName, .ref mkeptName, .ref misKept, .ref monces, .int 0, .ref morder, .ref mordered, .int 0, .int 0, .int 0, .int (-1), .int (-1), .ref mtext, .int 0, .int 0, .ref mline, .ref mwritten, .int 0, .int 0, .ref mnode, .int 0, .int 0, .int 0, .int 0]))]) C hw iwX11 tyX11_ok nmX11 10 rfl 0 rfl 10 (by decide) kw1207 rfl rfl rfl (Nat.le_of_ble_eq_true rfl) rfl dX11_begin_20 (fun H locs hw => ?_)
  refine lv_aload_n C.1 C.2.1 dX11_begin_23 rfl (lv_at hl 0 rfl) ?_
  refine lv_iconst (v := 0) C.1 C.2.1 dX11_begin_24 (by decide) ?_
  refine x_put (w' := [(qm, .inr (10, [.int 0, .ref mtape, .int 0, .int 0, .int m9, .int 0, .int 0, .int 0, .int 0, .int 0, .int 0, .int 0, .long 0, .int 0, .ref mnow, .ref mread, .ref mkept, .ref msnaps, .ref maside, .ref mname, .ref mreadName, .ref mkeptName, .ref misKept, .ref monces, .int 0, .ref morder, .ref mordered, .int 0, .int 0, .int 0, .int (-1), .int (-1), .ref mtext, .int 0, .int 0, .ref mline, .ref mwritten, .int 0, .int 0, .ref mnode, .int 0, .int 0, .int 0, .int 0]))]) C hw iwX11 tyX11_ok nmX11 10 rfl 0 rfl 5 (by decide) kw1202 rfl rfl rfl (Nat.le_of_ble_eq_true rfl) rfl dX11_begin_25 (fun H locs hw => ?_)
  refine lv_aload_n C.1 C.2.1 dX11_begin_28 rfl (lv_at hl 0 rfl) ?_
  refine x_callvV (As := []) (rest := []) (wr := []) C hw (c_X11_go qm mtape m9 mnow mread mkept msnaps maside mname mreadName mkeptName misKept monces morder mordered mtext mline mwritten mnode hm) mwX11_go kw1343 [0] [] rfl rfl rfl rfl (by decide) 0 rfl rfl rfl rfl hl.1 rfl (Nat.le_of_ble_eq_true rfl) ⟨(Nat.le_of_ble_eq_true rfl), (Nat.le_of_ble_eq_true rfl)⟩ ⟨(Nat.le_of_ble_eq_true rfl), (Nat.le_of_ble_eq_true rfl)⟩ dX11_begin_29 (fun  u9 H locs hp9 hw => ?_)
  obtain rfl := hp9
  have hw : Wd G s A [(qm, .inr (10, [.int 0, .ref mtape, .int 0, .int 0, .int m9, .int 0, .int 0, .int 0, .int 0, .int 0, .int 0, .int 0, .long 0, .int 0, .ref mnow, .ref mread, .ref mkept, .ref msnaps, .ref maside, .ref mname, .ref mreadName, .ref mkeptName, .ref misKept, .ref monces, .int 0, .ref morder, .ref mordered, .int 0, .int 0, .int 0, .int (-1), .int (-1), .ref mtext, .int 0, .int 0, .ref mline, .ref mwritten, .int 0, .int 0, .ref mnode, .int 0, .int 0, .int 0, .int 0]))] H _ := hw
  exact x_retv B hw rfl (Nat.le_of_ble_eq_true rfl) (Nat.le_of_ble_eq_true rfl) dX11_begin_32
set_option maxHeartbeats 4000000 in
set_option maxRecDepth 100000 in
theorem c_X11_startRead {l : Launch} {G : Gc} (qm : Nat) (mtape : Nat) (m9 : Int32) (mnow : Nat) (mread : Nat) (mkept : Nat) (msnaps : Nat) (maside : Nat) (mname : Nat) (mreadName : Nat) (mkeptName : Nat) (misKept : Nat) (monces : Nat) (morder : Nat) (mordered : Nat) (mtext : Nat) (mline : Nat) (mwritten : Nat) (mnode : Nat) (fr : Nat → Int32) (fo : Nat → Int32)  : Cv l yX11_startRead cX11_startRead 2 0 0 0 G [.ref qm] [(qm, .inr (10, [.int 0, .ref mtape, .int 0, .int 0, .int m9, .int 0, .int 0, .int 0, .int 0, .int 0, .int 0, .int 0, .long 0, .int 0, .ref mnow, .ref mread, .ref mkept, .ref msnaps, .ref maside, .ref mname, .ref mreadName, .ref mkeptName, .ref misKept, .ref monces, .int 0, .ref morder, .ref mordered, .int 0, .int 0, .int 0, .int (-1), .int (-1), .ref mtext, .int 0, .int 0, .ref mline, .ref mwritten, .int 0, .int 0, .ref mnode, .int 0, .int 0, .int 0, .int 0])), (mread, eI G 64 fr), (monces, eZ G 3 fo)] (fun (u9 : va_W) => ∃ (gr : Nat → Int32) (go : Nat → Int32), u9 = [(qm, .inr (10, [.int 0, .ref mtape, .int 0, .int 0, .int m9, .int 0, .int 0, .int 0, .int 0, .int 0, .int 0, .int 0, .long 0, .int 0, .ref mnow, .ref mread, .ref mkept, .ref msnaps, .ref maside, .ref mname, .ref mreadName, .ref mkeptName, .ref misKept, .ref monces, .int 0, .ref morder, .ref mordered, .int 0, .int 0, .int 0, .int (-1), .int (-1), .ref mtext, .int 0, .int 0, .ref mline, .ref mwritten, .int 0, .int 0, .ref mnode, .int 0, .int 0, .int 0, .int 0])), (mread, eI G 64 gr), (monces, eZ G 3 go)]) := by
  refine Cv.of (by decide) (Nat.le_of_ble_eq_true rfl) ?_
  intro p e s m below meth c ls A B hw hl
  have C : CallFix p m c cX11_startRead 2 s _ gw "LanternStateModel" := B.1
  have hl : lv_has ls 2 [(0, .ref qm)] := hl
  refine lv_iconst (v := 0) C.1 C.2.1 dX11_startRead_0 (by decide) ?_
  refine lv_istore_n (lv' := [(1, .int 0), (0, .ref qm)]) C.1 C.2.1 dX11_startRead_1 rfl hl (by decide) rfl (fun ls hl => ?_)
  have loop2 : ∀ (n9 : Nat) (k2 : Nat) (f2_0 : Nat → Int32), 64 - k2 < n9 → 0 ≤ k2 ∧ k2 ≤ 64 → ∀ (H : Heap) (locs : List Loc) (ls : Array Slot), Wd G s A [(qm, .inr (10, [.int 0, .ref mtape, .int 0, .int 0, .int m9, .int 0, .int 0, .int 0, .int 0, .int 0, .int 0, .int 0, .long 0, .int 0, .ref mnow, .ref mread, .ref mkept, .ref msnaps, .ref maside, .ref mname, .ref mreadName, .ref mkeptName, .ref misKept, .ref monces, .int 0, .ref morder, .ref mordered, .int 0, .int 0, .int 0, .int (-1), .int (-1), .ref mtext, .int 0, .int 0, .ref mline, .ref mwritten, .int 0, .int 0, .ref mnode, .int 0, .int 0, .int 0, .int 0])), (mread, eI G 64 f2_0), (monces, eZ G 3 fo)] H locs → lv_has ls 2 [(1, .int (nI k2)), (0, .ref qm)] → W p l e (rmD 0 0 0) s m [.ref qm].toArray below meth c H locs 0 0 (MQ below (va_Qv (fun (u9 : va_W) => ∃ (gr : Nat → Int32) (go : Nat → Int32), u9 = [(qm, .inr (10, [.int 0, .ref mtape, .int 0, .int 0, .int m9, .int 0, .int 0, .int 0, .int 0, .int 0, .int 0, .int 0, .long 0, .int 0, .ref mnow, .ref mread, .ref mkept, .ref msnaps, .ref maside, .ref mname, .ref mreadName, .ref mkeptName, .ref misKept, .ref monces, .int 0, .ref morder, .ref mordered, .int 0, .int 0, .int 0, .int (-1), .int (-1), .ref mtext, .int 0, .int 0, .ref mline, .ref mwritten, .int 0, .int 0, .ref mnode, .int 0, .int 0, .int 0, .int 0])), (mread, eI G 64 gr), (monces, eZ G 3 go)]) (mB G A) A) [.ref qm].toArray s 0 0 A) (F0 m 2 ls []) := by
    intro n9
    induction n9 with
    | zero => intro k2 f2_0 h9; exact absurd h9 (Nat.not_lt_zero _)
    | succ n9 ih =>
      intro k2 f2_0 h9 hi2 H locs ls hw hl
      refine lv_iload_n C.1 C.2.1 dX11_startRead_2 rfl (lv_at hl 0 rfl) ?_
      refine lv_bipush (v := 64) C.1 C.2.1 dX11_startRead_3 (by decide) ?_
      refine lv_icmp_ge (tgt := 21) C.1 C.2.1 dX11_startRead_5 (by decide) (fun c_5 => ?_) (fun c_5 => ?_)
      · skip
        refine lv_iconst (v := 0) C.1 C.2.1 dX11_startRead_21 (by decide) ?_
        refine lv_istore_n (lv' := [(1, .int 0), (0, .ref qm)]) C.1 C.2.1 dX11_startRead_22 rfl hl (by decide) rfl (fun ls hl => ?_)
        have loop23 : ∀ (n9 : Nat) (k23 : Nat) (f23_0 : Nat → Int32), 3 - k23 < n9 → 0 ≤ k23 ∧ k23 ≤ 3 → ∀ (H : Heap) (locs : List Loc) (ls : Array Slot), Wd G s A [(qm, .inr (10, [.int 0, .ref mtape, .int 0, .int 0, .int m9, .int 0, .int 0, .int 0, .int 0, .int 0, .int 0, .int 0, .long 0, .int 0, .ref mnow, .ref mread, .ref mkept, .ref msnaps, .ref maside, .ref mname, .ref mreadName, .ref mkeptName, .ref misKept, .ref monces, .int 0, .ref morder, .ref mordered, .int 0, .int 0, .int 0, .int (-1), .int (-1), .ref mtext, .int 0, .int 0, .ref mline, .ref mwritten, .int 0, .int 0, .ref mnode, .int 0, .int 0, .int 0, .int 0])), (mread, eI G 64 f2_0), (monces, eZ G 3 f23_0)] H locs → lv_has ls 2 [(1, .int (nI k23)), (0, .ref qm)] → W p l e (rmD 0 0 0) s m [.ref qm].toArray below meth c H locs 0 0 (MQ below (va_Qv (fun (u9 : va_W) => ∃ (gr : Nat → Int32) (go : Nat → Int32), u9 = [(qm, .inr (10, [.int 0, .ref mtape, .int 0, .int 0, .int m9, .int 0, .int 0, .int 0, .int 0, .int 0, .int 0, .int 0, .long 0, .int 0, .ref mnow, .ref mread, .ref mkept, .ref msnaps, .ref maside, .ref mname, .ref mreadName, .ref mkeptName, .ref misKept, .ref monces, .int 0, .ref morder, .ref mordered, .int 0, .int 0, .int 0, .int (-1), .int (-1), .ref mtext, .int 0, .int 0, .ref mline, .ref mwritten, .int 0, .int 0, .ref mnode, .int 0, .int 0, .int 0, .int 0])), (mread, eI G 64 gr), (monces, eZ G 3 go)]) (mB G A) A) [.ref qm].toArray s 0 0 A) (F0 m 23 ls []) := by
          intro n9
          induction n9 with
          | zero => intro k23 f23_0 h9; exact absurd h9 (Nat.not_lt_zero _)
          | succ n9 ih =>
            intro k23 f23_0 h9 hi23 H locs ls hw hl
            refine lv_iload_n C.1 C.2.1 dX11_startRead_23 rfl (lv_at hl 0 rfl) ?_
            refine lv_iconst (v := 3) C.1 C.2.1 dX11_startRead_24 (by decide) ?_
            refine lv_icmp_ge (tgt := 41) C.1 C.2.1 dX11_startRead_25 (by decide) (fun c_25 => ?_) (fun c_25 => ?_)
            · skip
              refine lv_iconst (v := 0) C.1 C.2.1 dX11_startRead_41 (by decide) ?_
              refine lv_istore_n (lv' := [(1, .int 0), (0, .ref qm)]) C.1 C.2.1 dX11_startRead_42 rfl hl (by decide) rfl (fun ls hl => ?_)
              have loop43 : ∀ (n9 : Nat) (k43 : Nat) (f43_0 : Nat → Int32), 6 - k43 < n9 → 0 ≤ k43 ∧ k43 ≤ 6 → ∀ (H : Heap) (locs : List Loc) (ls : Array Slot), Wd G s A [(qm, .inr (10, [.int 0, .ref mtape, .int 0, .int 0, .int m9, .int 0, .int 0, .int 0, .int 0, .int 0, .int 0, .int 0, .long 0, .int 0, .ref mnow, .ref mread, .ref mkept, .ref msnaps, .ref maside, .ref mname, .ref mreadName, .ref mkeptName, .ref misKept, .ref monces, .int 0, .ref morder, .ref mordered, .int 0, .int 0, .int 0, .int (-1), .int (-1), .ref mtext, .int 0, .int 0, .ref mline, .ref mwritten, .int 0, .int 0, .ref mnode, .int 0, .int 0, .int 0, .int 0])), (mread, eI G 64 f43_0), (monces, eZ G 3 f23_0)] H locs → lv_has ls 2 [(1, .int (nI k43)), (0, .ref qm)] → W p l e (rmD 0 0 0) s m [.ref qm].toArray below meth c H locs 0 0 (MQ below (va_Qv (fun (u9 : va_W) => ∃ (gr : Nat → Int32) (go : Nat → Int32), u9 = [(qm, .inr (10, [.int 0, .ref mtape, .int 0, .int 0, .int m9, .int 0, .int 0, .int 0, .int 0, .int 0, .int 0, .int 0, .long 0, .int 0, .ref mnow, .ref mread, .ref mkept, .ref msnaps, .ref maside, .ref mname, .ref mreadName, .ref mkeptName, .ref misKept, .ref monces, .int 0, .ref morder, .ref mordered, .int 0, .int 0, .int 0, .int (-1), .int (-1), .ref mtext, .int 0, .int 0, .ref mline, .ref mwritten, .int 0, .int 0, .ref mnode, .int 0, .int 0, .int 0, .int 0])), (mread, eI G 64 gr), (monces, eZ G 3 go)]) (mB G A) A) [.ref qm].toArray s 0 0 A) (F0 m 43 ls []) := by
                intro n9
                induction n9 with
                | zero => intro k43 f43_0 h9; exact absurd h9 (Nat.not_lt_zero _)
                | succ n9 ih =>
                  intro k43 f43_0 h9 hi43 H locs ls hw hl
                  refine lv_iload_n C.1 C.2.1 dX11_startRead_43 rfl (lv_at hl 0 rfl) ?_
                  refine lv_bipush (v := 6) C.1 C.2.1 dX11_startRead_44 (by decide) ?_
                  refine lv_icmp_ge (tgt := 65) C.1 C.2.1 dX11_startRead_46 (by decide) (fun c_46 => ?_) (fun c_46 => ?_)
                  · skip
                    refine lv_aload_n C.1 C.2.1 dX11_startRead_65 rfl (lv_at hl 1 rfl) ?_
                    refine x_get C hw iwX11 10 rfl 0 rfl 15 (by decide) kw1212 rfl dX11_startRead_66 ?_
                    refine lv_iconst (v := 3) C.1 C.2.1 dX11_startRead_69 (by decide) ?_
                    refine lv_iconst (v := 1) C.1 C.2.1 dX11_startRead_70 (by decide) ?_
                    refine x_iast (f' := (upd f43_0 3 1)) (w' := [(qm, .inr (10, [.int 0, .ref mtape, .int 0, .int 0, .int m9, .int 0, .int 0, .int 0, .int 0, .int 0, .int 0, .int 0, .long 0, .int 0, .ref mnow, .ref mread, .ref mkept, .ref msnaps, .ref maside, .ref mname, .ref mreadName, .ref mkeptName, .ref misKept, .ref monces, .int 0, .ref morder, .ref mordered, .int 0, .int 0, .int 0, .int (-1), .int (-1), .ref mtext, .int 0, .int 0, .ref mline, .ref mwritten, .int 0, .int 0, .ref mnode, .int 0, .int 0, .int 0, .int 0])), (mread, eI G 64 (upd f43_0 3 1)), (monces, eZ G 3 f23_0)]) C hw 1 rfl (x_in rfl) rfl rfl dX11_startRead_71 (fun H locs hw => ?_)
                    refine lv_aload_n C.1 C.2.1 dX11_startRead_72 rfl (lv_at hl 1 rfl) ?_
                    refine x_get C hw iwX11 10 rfl 0 rfl 15 (by decide) kw1212 rfl dX11_startRead_73 ?_
                    refine lv_iconst (v := 5) C.1 C.2.1 dX11_startRead_76 (by decide) ?_
                    refine lv_bipush (v := 40) C.1 C.2.1 dX11_startRead_77 (by decide) ?_
                    refine x_iast (f' := (upd (upd f43_0 3 1) 5 40)) (w' := [(qm, .inr (10, [.int 0, .ref mtape, .int 0, .int 0, .int m9, .int 0, .int 0, .int 0, .int 0, .int 0, .int 0, .int 0, .long 0, .int 0, .ref mnow, .ref mread, .ref mkept, .ref msnaps, .ref maside, .ref mname, .ref mreadName, .ref mkeptName, .ref misKept, .ref monces, .int 0, .ref morder, .ref mordered, .int 0, .int 0, .int 0, .int (-1), .int (-1), .ref mtext, .int 0, .int 0, .ref mline, .ref mwritten, .int 0, .int 0, .ref mnode, .int 0, .int 0, .int 0, .int 0])), (mread, eI G 64 (upd (upd f43_0 3 1) 5 40)), (monces, eZ G 3 f23_0)]) C hw 1 rfl (x_in rfl) rfl rfl dX11_startRead_79 (fun H locs hw => ?_)
                    exact x_retv B hw ⟨(upd (upd f43_0 3 1) 5 40), f23_0, rfl⟩ (Nat.le_of_ble_eq_true rfl) (Nat.le_of_ble_eq_true rfl) dX11_startRead_80
                  · skip
                    have hk46 : k43 < 6 := x_ltN hi43.2 c_46 (by decide)
                    refine lv_aload_n C.1 C.2.1 dX11_startRead_49 rfl (lv_at hl 1 rfl) ?_
                    refine x_get C hw iwX11 10 rfl 0 rfl 15 (by decide) kw1212 rfl dX11_startRead_50 ?_
                    refine lv_bipush (v := 18) C.1 C.2.1 dX11_startRead_53 (by decide) ?_
                    refine lv_iload_n C.1 C.2.1 dX11_startRead_55 rfl (lv_at hl 0 rfl) ?_
                    refine lv_iadd C.1 C.2.1 dX11_startRead_56 ?_
                    refine x_topi (z := (nI (18 + k43))) (nI_add 18 k43) ?_
                    refine lv_iconst (v := (-1)) C.1 C.2.1 dX11_startRead_57 (by decide) ?_
                    refine x_iast (f' := (upd f43_0 ((nI (18 + k43)).toNatClampNeg) (-1))) (w' := [(qm, .inr (10, [.int 0, .ref mtape, .int 0, .int 0, .int m9, .int 0, .int 0, .int 0, .int 0, .int 0, .int 0, .int 0, .long 0, .int 0, .ref mnow, .ref mread, .ref mkept, .ref msnaps, .ref maside, .ref mname, .ref mreadName, .ref mkeptName, .ref misKept, .ref monces, .int 0, .ref morder, .ref mordered, .int 0, .int 0, .int 0, .int (-1), .int (-1), .ref mtext, .int 0, .int 0, .ref mline, .ref mwritten, .int 0, .int 0, .ref mnode, .int 0, .int 0, .int 0, .int 0])), (mread, eI G 64 (upd f43_0 ((nI (18 + k43)).toNatClampNeg) (-1))), (monces, eZ G 3 f23_0)]) C hw 1 rfl (vp_in_nI (by omega) (by decide)) rfl rfl dX11_startRead_58 (fun H locs hw => ?_)
                    refine lv_iinc (v := (nI (k43 + 1))) (lv' := [(1, .int (nI (k43 + 1))), (0, .ref qm)]) C.1 C.2.1 dX11_startRead_59 hl (k := 0) rfl (nI_1 k43) (by decide) rfl (fun ls hl => ?_)
                    refine lv_goto (tgt := 43) C.1 C.2.1 dX11_startRead_62 (by decide) ?_
                    exact ih (k43 + 1) (upd f43_0 ((nI (18 + k43)).toNatClampNeg) (-1)) (by omega) (by omega) _ _ _ hw (lv_sub hl [0, 1] rfl)
              exact loop43 _ 0 f2_0 (Nat.lt_succ_self _) (by decide) _ _ _ hw (lv_sub hl [0, 1] rfl)
            · skip
              have hk25 : k23 < 3 := x_ltN hi23.2 c_25 (by decide)
              refine lv_aload_n C.1 C.2.1 dX11_startRead_28 rfl (lv_at hl 1 rfl) ?_
              refine x_get C hw iwX11 10 rfl 0 rfl 23 (by decide) kw1220 rfl dX11_startRead_29 ?_
              refine lv_iload_n C.1 C.2.1 dX11_startRead_32 rfl (lv_at hl 0 rfl) ?_
              refine lv_iconst (v := 0) C.1 C.2.1 dX11_startRead_33 (by decide) ?_
              refine x_zast (f' := (upd f23_0 ((nI k23).toNatClampNeg) (vp_nar .boolean 0))) (w' := [(qm, .inr (10, [.int 0, .ref mtape, .int 0, .int 0, .int m9, .int 0, .int 0, .int 0, .int 0, .int 0, .int 0, .int 0, .long 0, .int 0, .ref mnow, .ref mread, .ref mkept, .ref msnaps, .ref maside, .ref mname, .ref mreadName, .ref mkeptName, .ref misKept, .ref monces, .int 0, .ref morder, .ref mordered, .int 0, .int 0, .int 0, .int (-1), .int (-1), .ref mtext, .int 0, .int 0, .ref mline, .ref mwritten, .int 0, .int 0, .ref mnode, .int 0, .int 0, .int 0, .int 0])), (mread, eI G 64 f2_0), (monces, eZ G 3 (upd f23_0 ((nI k23).toNatClampNeg) (vp_nar .boolean 0)))]) C hw 2 rfl (vp_in_nI (by omega) (by decide)) rfl rfl dX11_startRead_34 (fun H locs hw => ?_)
              refine lv_iinc (v := (nI (k23 + 1))) (lv' := [(1, .int (nI (k23 + 1))), (0, .ref qm)]) C.1 C.2.1 dX11_startRead_35 hl (k := 0) rfl (nI_1 k23) (by decide) rfl (fun ls hl => ?_)
              refine lv_goto (tgt := 23) C.1 C.2.1 dX11_startRead_38 (by decide) ?_
              exact ih (k23 + 1) (upd f23_0 ((nI k23).toNatClampNeg) (vp_nar .boolean 0)) (by omega) (by omega) _ _ _ hw (lv_sub hl [0, 1] rfl)
        exact loop23 _ 0 fo (Nat.lt_succ_self _) (by decide) _ _ _ hw (lv_sub hl [0, 1] rfl)
      · skip
        have hk5 : k2 < 64 := x_ltN hi2.2 c_5 (by decide)
        refine lv_aload_n C.1 C.2.1 dX11_startRead_8 rfl (lv_at hl 1 rfl) ?_
        refine x_get C hw iwX11 10 rfl 0 rfl 15 (by decide) kw1212 rfl dX11_startRead_9 ?_
        refine lv_iload_n C.1 C.2.1 dX11_startRead_12 rfl (lv_at hl 0 rfl) ?_
        refine lv_iconst (v := 0) C.1 C.2.1 dX11_startRead_13 (by decide) ?_
        refine x_iast (f' := (upd f2_0 ((nI k2).toNatClampNeg) 0)) (w' := [(qm, .inr (10, [.int 0, .ref mtape, .int 0, .int 0, .int m9, .int 0, .int 0, .int 0, .int 0, .int 0, .int 0, .int 0, .long 0, .int 0, .ref mnow, .ref mread, .ref mkept, .ref msnaps, .ref maside, .ref mname, .ref mreadName, .ref mkeptName, .ref misKept, .ref monces, .int 0, .ref morder, .ref mordered, .int 0, .int 0, .int 0, .int (-1), .int (-1), .ref mtext, .int 0, .int 0, .ref mline, .ref mwritten, .int 0, .int 0, .ref mnode, .int 0, .int 0, .int 0, .int 0])), (mread, eI G 64 (upd f2_0 ((nI k2).toNatClampNeg) 0)), (monces, eZ G 3 fo)]) C hw 1 rfl (vp_in_nI (by omega) (by decide)) rfl rfl dX11_startRead_14 (fun H locs hw => ?_)
        refine lv_iinc (v := (nI (k2 + 1))) (lv' := [(1, .int (nI (k2 + 1))), (0, .ref qm)]) C.1 C.2.1 dX11_startRead_15 hl (k := 0) rfl (nI_1 k2) (by decide) rfl (fun ls hl => ?_)
        refine lv_goto (tgt := 2) C.1 C.2.1 dX11_startRead_18 (by decide) ?_
        exact ih (k2 + 1) (upd f2_0 ((nI k2).toNatClampNeg) 0) (by omega) (by omega) _ _ _ hw (lv_sub hl [0, 1] rfl)
  exact loop2 _ 0 fr (Nat.lt_succ_self _) (by decide) _ _ _ hw (lv_sub hl [0, 1] rfl)
theorem dX11_startSo_0 : decode cX11_startSo 0 = .ok (.bipush 64, 2) := by decide +kernel
theorem dX11_startSo_2 : decode cX11_startSo 2 = .ok (.istore_n 1, 1) := by decide +kernel
theorem dX11_startSo_3 : decode cX11_startSo 3 = .ok (.iload_n 1, 1) := by decide +kernel
theorem dX11_startSo_4 : decode cX11_startSo 4 = .ok (.sipush 339, 3) := by decide +kernel
theorem dX11_startSo_7 : decode cX11_startSo 7 = .ok (.if_icmp .ge 16, 3) := by decide +kernel
theorem dX11_startSo_23 : decode cX11_startSo 23 = .ok (.iconst 0, 1) := by decide +kernel
theorem dX11_startSo_24 : decode cX11_startSo 24 = .ok (.istore_n 1, 1) := by decide +kernel
theorem dX11_startSo_25 : decode cX11_startSo 25 = .ok (.iload_n 1, 1) := by decide +kernel
theorem dX11_startSo_26 : decode cX11_startSo 26 = .ok (.bipush 6, 2) := by decide +kernel
theorem dX11_startSo_28 : decode cX11_startSo 28 = .ok (.if_icmp .ge 27, 3) := by decide +kernel
theorem dX11_startSo_55 : decode cX11_startSo 55 = .ok (.iconst 0, 1) := by decide +kernel
theorem dX11_startSo_56 : decode cX11_startSo 56 = .ok (.istore_n 1, 1) := by decide +kernel
theorem dX11_startSo_57 : decode cX11_startSo 57 = .ok (.iload_n 1, 1) := by decide +kernel
theorem dX11_startSo_58 : decode cX11_startSo 58 = .ok (.bipush 8, 2) := by decide +kernel
theorem dX11_startSo_60 : decode cX11_startSo 60 = .ok (.if_icmp .ge 27, 3) := by decide +kernel
theorem dX11_startSo_87 : decode cX11_startSo 87 = .ok (.return_, 1) := by decide +kernel
theorem dX11_startSo_63 : decode cX11_startSo 63 = .ok (.aload_n 0, 1) := by decide +kernel
theorem dX11_startSo_64 : decode cX11_startSo 64 = .ok (.getfield 98, 3) := by decide +kernel
theorem dX11_startSo_67 : decode cX11_startSo 67 = .ok (.bipush 81, 2) := by decide +kernel
theorem dX11_startSo_69 : decode cX11_startSo 69 = .ok (.iload_n 1, 1) := by decide +kernel
theorem dX11_startSo_70 : decode cX11_startSo 70 = .ok (.iadd, 1) := by decide +kernel
theorem dX11_startSo_71 : decode cX11_startSo 71 = .ok (.aload_n 0, 1) := by decide +kernel
theorem dX11_startSo_72 : decode cX11_startSo 72 = .ok (.getfield 98, 3) := by decide +kernel
theorem dX11_startSo_75 : decode cX11_startSo 75 = .ok (.bipush 24, 2) := by decide +kernel
theorem dX11_startSo_77 : decode cX11_startSo 77 = .ok (.iload_n 1, 1) := by decide +kernel
theorem dX11_startSo_78 : decode cX11_startSo 78 = .ok (.iadd, 1) := by decide +kernel
theorem dX11_startSo_79 : decode cX11_startSo 79 = .ok (.iaload, 1) := by decide +kernel
theorem dX11_startSo_80 : decode cX11_startSo 80 = .ok (.iastore, 1) := by decide +kernel
theorem dX11_startSo_81 : decode cX11_startSo 81 = .ok (.iinc 1 1, 3) := by decide +kernel
theorem dX11_startSo_84 : decode cX11_startSo 84 = .ok (.goto (-27), 3) := by decide +kernel
theorem dX11_startSo_31 : decode cX11_startSo 31 = .ok (.aload_n 0, 1) := by decide +kernel
theorem dX11_startSo_32 : decode cX11_startSo 32 = .ok (.getfield 98, 3) := by decide +kernel
theorem dX11_startSo_35 : decode cX11_startSo 35 = .ok (.bipush 69, 2) := by decide +kernel
theorem dX11_startSo_37 : decode cX11_startSo 37 = .ok (.iload_n 1, 1) := by decide +kernel
theorem dX11_startSo_38 : decode cX11_startSo 38 = .ok (.iadd, 1) := by decide +kernel
theorem dX11_startSo_39 : decode cX11_startSo 39 = .ok (.aload_n 0, 1) := by decide +kernel
theorem dX11_startSo_40 : decode cX11_startSo 40 = .ok (.getfield 98, 3) := by decide +kernel
theorem dX11_startSo_43 : decode cX11_startSo 43 = .ok (.bipush 6, 2) := by decide +kernel
theorem dX11_startSo_45 : decode cX11_startSo 45 = .ok (.iload_n 1, 1) := by decide +kernel
theorem dX11_startSo_46 : decode cX11_startSo 46 = .ok (.iadd, 1) := by decide +kernel
theorem dX11_startSo_47 : decode cX11_startSo 47 = .ok (.iaload, 1) := by decide +kernel
theorem dX11_startSo_48 : decode cX11_startSo 48 = .ok (.iastore, 1) := by decide +kernel
theorem dX11_startSo_49 : decode cX11_startSo 49 = .ok (.iinc 1 1, 3) := by decide +kernel
theorem dX11_startSo_52 : decode cX11_startSo 52 = .ok (.goto (-27), 3) := by decide +kernel
theorem dX11_startSo_10 : decode cX11_startSo 10 = .ok (.aload_n 0, 1) := by decide +kernel
theorem dX11_startSo_11 : decode cX11_startSo 11 = .ok (.getfield 98, 3) := by decide +kernel
theorem dX11_startSo_14 : decode cX11_startSo 14 = .ok (.iload_n 1, 1) := by decide +kernel
theorem dX11_startSo_15 : decode cX11_startSo 15 = .ok (.iconst 0, 1) := by decide +kernel
theorem dX11_startSo_16 : decode cX11_startSo 16 = .ok (.iastore, 1) := by decide +kernel
theorem dX11_startSo_17 : decode cX11_startSo 17 = .ok (.iinc 1 1, 3) := by decide +kernel
theorem dX11_startSo_20 : decode cX11_startSo 20 = .ok (.goto (-17), 3) := by decide +kernel
set_option maxHeartbeats 4000000 in
set_option maxRecDepth 100000 in
theorem c_X11_startSo {l : Launch} {G : Gc} (qm : Nat) (mtape : Nat) (m9 : Int32) (mnow : Nat) (mread : Nat) (mkept : Nat) (msnaps : Nat) (maside : Nat) (mname : Nat) (mreadName : Nat) (mkeptName : Nat) (misKept : Nat) (monces : Nat) (morder : Nat) (mordered : Nat) (mtext : Nat) (mline : Nat) (mwritten : Nat) (mnode : Nat) (fn : Nat → Int32)  : Cv l yX11_startSo cX11_startSo 2 0 0 0 G [.ref qm] [(qm, .inr (10, [.int 0, .ref mtape, .int 0, .int 0, .int m9, .int 0, .int 0, .int 0, .int 0, .int 0, .int 0, .int 0, .long 0, .int 0, .ref mnow, .ref mread, .ref mkept, .ref msnaps, .ref maside, .ref mname, .ref mreadName, .ref mkeptName, .ref misKept, .ref monces, .int 0, .ref morder, .ref mordered, .int 0, .int 0, .int 0, .int (-1), .int (-1), .ref mtext, .int 0, .int 0, .ref mline, .ref mwritten, .int 0, .int 0, .ref mnode, .int 0, .int 0, .int 0, .int 0])), (mnow, eI G 339 fn)] (fun (u9 : va_W) => ∃ (gn : Nat → Int32), u9 = [(qm, .inr (10, [.int 0, .ref mtape, .int 0, .int 0, .int m9, .int 0, .int 0, .int 0, .int 0, .int 0, .int 0, .int 0, .long 0, .int 0, .ref mnow, .ref mread, .ref mkept, .ref msnaps, .ref maside, .ref mname, .ref mreadName, .ref mkeptName, .ref misKept, .ref monces, .int 0, .ref morder, .ref mordered, .int 0, .int 0, .int 0, .int (-1), .int (-1), .ref mtext, .int 0, .int 0, .ref mline, .ref mwritten, .int 0, .int 0, .ref mnode, .int 0, .int 0, .int 0, .int 0])), (mnow, eI G 339 gn)]) := by
  refine Cv.of (by decide) (Nat.le_of_ble_eq_true rfl) ?_
  intro p e s m below meth c ls A B hw hl
  have C : CallFix p m c cX11_startSo 2 s _ gw "LanternStateModel" := B.1
  have hl : lv_has ls 2 [(0, .ref qm)] := hl
  refine lv_bipush (v := 64) C.1 C.2.1 dX11_startSo_0 (by decide) ?_
  refine lv_istore_n (lv' := [(1, .int 64), (0, .ref qm)]) C.1 C.2.1 dX11_startSo_2 rfl hl (by decide) rfl (fun ls hl => ?_)
  have loop3 : ∀ (n9 : Nat) (k3 : Nat) (f3_0 : Nat → Int32), 339 - k3 < n9 → 64 ≤ k3 ∧ k3 ≤ 339 → ∀ (H : Heap) (locs : List Loc) (ls : Array Slot), Wd G s A [(qm, .inr (10, [.int 0, .ref mtape, .int 0, .int 0, .int m9, .int 0, .int 0, .int 0, .int 0, .int 0, .int 0, .int 0, .long 0, .int 0, .ref mnow, .ref mread, .ref mkept, .ref msnaps, .ref maside, .ref mname, .ref mreadName, .ref mkeptName, .ref misKept, .ref monces, .int 0, .ref morder, .ref mordered, .int 0, .int 0, .int 0, .int (-1), .int (-1), .ref mtext, .int 0, .int 0, .ref mline, .ref mwritten, .int 0, .int 0, .ref mnode, .int 0, .int 0, .int 0, .int 0])), (mnow, eI G 339 f3_0)] H locs → lv_has ls 2 [(1, .int (nI k3)), (0, .ref qm)] → W p l e (rmD 0 0 0) s m [.ref qm].toArray below meth c H locs 0 0 (MQ below (va_Qv (fun (u9 : va_W) => ∃ (gn : Nat → Int32), u9 = [(qm, .inr (10, [.int 0, .ref mtape, .int 0, .int 0, .int m9, .int 0, .int 0, .int 0, .int 0, .int 0, .int 0, .int 0, .long 0, .int 0, .ref mnow, .ref mread, .ref mkept, .ref msnaps, .ref maside, .ref mname, .ref mreadName, .ref mkeptName, .ref misKept, .ref monces, .int 0, .ref morder, .ref mordered, .int 0, .int 0, .int 0, .int (-1), .int (-1), .ref mtext, .int 0, .int 0, .ref mline, .ref mwritten, .int 0, .int 0, .ref mnode, .int 0, .int 0, .int 0, .int 0])), (mnow, eI G 339 gn)]) (mB G A) A) [.ref qm].toArray s 0 0 A) (F0 m 3 ls []) := by
    intro n9
    induction n9 with
    | zero => intro k3 f3_0 h9; exact absurd h9 (Nat.not_lt_zero _)
    | succ n9 ih =>
      intro k3 f3_0 h9 hi3 H locs ls hw hl
      refine lv_iload_n C.1 C.2.1 dX11_startSo_3 rfl (lv_at hl 0 rfl) ?_
      refine lv_sipush (v := 339) C.1 C.2.1 dX11_startSo_4 (by decide) ?_
      refine lv_icmp_ge (tgt := 23) C.1 C.2.1 dX11_startSo_7 (by decide) (fun c_7 => ?_) (fun c_7 => ?_)
      · skip
        refine lv_iconst (v := 0) C.1 C.2.1 dX11_startSo_23 (by decide) ?_
        refine lv_istore_n (lv' := [(1, .int 0), (0, .ref qm)]) C.1 C.2.1 dX11_startSo_24 rfl hl (by decide) rfl (fun ls hl => ?_)
        have loop25 : ∀ (n9 : Nat) (k25 : Nat) (f25_0 : Nat → Int32), 6 - k25 < n9 → 0 ≤ k25 ∧ k25 ≤ 6 → ∀ (H : Heap) (locs : List Loc) (ls : Array Slot), Wd G s A [(qm, .inr (10, [.int 0, .ref mtape, .int 0, .int 0, .int m9, .int 0, .int 0, .int 0, .int 0, .int 0, .int 0, .int 0, .long 0, .int 0, .ref mnow, .ref mread, .ref mkept, .ref msnaps, .ref maside, .ref mname, .ref mreadName, .ref mkeptName, .ref misKept, .ref monces, .int 0, .ref morder, .ref mordered, .int 0, .int 0, .int 0, .int (-1), .int (-1), .ref mtext, .int 0, .int 0, .ref mline, .ref mwritten, .int 0, .int 0, .ref mnode, .int 0, .int 0, .int 0, .int 0])), (mnow, eI G 339 f25_0)] H locs → lv_has ls 2 [(1, .int (nI k25)), (0, .ref qm)] → W p l e (rmD 0 0 0) s m [.ref qm].toArray below meth c H locs 0 0 (MQ below (va_Qv (fun (u9 : va_W) => ∃ (gn : Nat → Int32), u9 = [(qm, .inr (10, [.int 0, .ref mtape, .int 0, .int 0, .int m9, .int 0, .int 0, .int 0, .int 0, .int 0, .int 0, .int 0, .long 0, .int 0, .ref mnow, .ref mread, .ref mkept, .ref msnaps, .ref maside, .ref mname, .ref mreadName, .ref mkeptName, .ref misKept, .ref monces, .int 0, .ref morder, .ref mordered, .int 0, .int 0, .int 0, .int (-1), .int (-1), .ref mtext, .int 0, .int 0, .ref mline, .ref mwritten, .int 0, .int 0, .ref mnode, .int 0, .int 0, .int 0, .int 0])), (mnow, eI G 339 gn)]) (mB G A) A) [.ref qm].toArray s 0 0 A) (F0 m 25 ls []) := by
          intro n9
          induction n9 with
          | zero => intro k25 f25_0 h9; exact absurd h9 (Nat.not_lt_zero _)
          | succ n9 ih =>
            intro k25 f25_0 h9 hi25 H locs ls hw hl
            refine lv_iload_n C.1 C.2.1 dX11_startSo_25 rfl (lv_at hl 0 rfl) ?_
            refine lv_bipush (v := 6) C.1 C.2.1 dX11_startSo_26 (by decide) ?_
            refine lv_icmp_ge (tgt := 55) C.1 C.2.1 dX11_startSo_28 (by decide) (fun c_28 => ?_) (fun c_28 => ?_)
            · skip
              refine lv_iconst (v := 0) C.1 C.2.1 dX11_startSo_55 (by decide) ?_
              refine lv_istore_n (lv' := [(1, .int 0), (0, .ref qm)]) C.1 C.2.1 dX11_startSo_56 rfl hl (by decide) rfl (fun ls hl => ?_)
              have loop57 : ∀ (n9 : Nat) (k57 : Nat) (f57_0 : Nat → Int32), 8 - k57 < n9 → 0 ≤ k57 ∧ k57 ≤ 8 → ∀ (H : Heap) (locs : List Loc) (ls : Array Slot), Wd G s A [(qm, .inr (10, [.int 0, .ref mtape, .int 0, .int 0, .int m9, .int 0, .int 0, .int 0, .int 0, .int 0, .int 0, .int 0, .long 0, .int 0, .ref mnow, .ref mread, .ref mkept, .ref msnaps, .ref maside, .ref mname, .ref mreadName, .ref mkeptName, .ref misKept, .ref monces, .int 0, .ref morder, .ref mordered, .int 0, .int 0, .int 0, .int (-1), .int (-1), .ref mtext, .int 0, .int 0, .ref mline, .ref mwritten, .int 0, .int 0, .ref mnode, .int 0, .int 0, .int 0, .int 0])), (mnow, eI G 339 f57_0)] H locs → lv_has ls 2 [(1, .int (nI k57)), (0, .ref qm)] → W p l e (rmD 0 0 0) s m [.ref qm].toArray below meth c H locs 0 0 (MQ below (va_Qv (fun (u9 : va_W) => ∃ (gn : Nat → Int32), u9 = [(qm, .inr (10, [.int 0, .ref mtape, .int 0, .int 0, .int m9, .int 0, .int 0, .int 0, .int 0, .int 0, .int 0, .int 0, .long 0, .int 0, .ref mnow, .ref mread, .ref mkept, .ref msnaps, .ref maside, .ref mname, .ref mreadName, .ref mkeptName, .ref misKept, .ref monces, .int 0, .ref morder, .ref mordered, .int 0, .int 0, .int 0, .int (-1), .int (-1), .ref mtext, .int 0, .int 0, .ref mline, .ref mwritten, .int 0, .int 0, .ref mnode, .int 0, .int 0, .int 0, .int 0])), (mnow, eI G 339 gn)]) (mB G A) A) [.ref qm].toArray s 0 0 A) (F0 m 57 ls []) := by
                intro n9
                induction n9 with
                | zero => intro k57 f57_0 h9; exact absurd h9 (Nat.not_lt_zero _)
                | succ n9 ih =>
                  intro k57 f57_0 h9 hi57 H locs ls hw hl
                  refine lv_iload_n C.1 C.2.1 dX11_startSo_57 rfl (lv_at hl 0 rfl) ?_
                  refine lv_bipush (v := 8) C.1 C.2.1 dX11_startSo_58 (by decide) ?_
                  refine lv_icmp_ge (tgt := 87) C.1 C.2.1 dX11_startSo_60 (by decide) (fun c_60 => ?_) (fun c_60 => ?_)
                  · skip
                    exact x_retv B hw ⟨f57_0, rfl⟩ (Nat.le_of_ble_eq_true rfl) (Nat.le_of_ble_eq_true rfl) dX11_startSo_87
                  · skip
                    have hk60 : k57 < 8 := x_ltN hi57.2 c_60 (by decide)
                    refine lv_aload_n C.1 C.2.1 dX11_startSo_63 rfl (lv_at hl 1 rfl) ?_
                    refine x_get C hw iwX11 10 rfl 0 rfl 14 (by decide) kw1211 rfl dX11_startSo_64 ?_
                    refine lv_bipush (v := 81) C.1 C.2.1 dX11_startSo_67 (by decide) ?_
                    refine lv_iload_n C.1 C.2.1 dX11_startSo_69 rfl (lv_at hl 0 rfl) ?_
                    refine lv_iadd C.1 C.2.1 dX11_startSo_70 ?_
                    refine x_topi (z := (nI (81 + k57))) (nI_add 81 k57) ?_
                    refine lv_aload_n C.1 C.2.1 dX11_startSo_71 rfl (lv_at hl 1 rfl) ?_
                    refine x_get C hw iwX11 10 rfl 0 rfl 14 (by decide) kw1211 rfl dX11_startSo_72 ?_
                    refine lv_bipush (v := 24) C.1 C.2.1 dX11_startSo_75 (by decide) ?_
                    refine lv_iload_n C.1 C.2.1 dX11_startSo_77 rfl (lv_at hl 0 rfl) ?_
                    refine lv_iadd C.1 C.2.1 dX11_startSo_78 ?_
                    refine x_topi (z := (nI (24 + k57))) (nI_add 24 k57) ?_
                    refine x_iald (v := (f57_0 (nI (24 + k57)).toNatClampNeg)) C hw 1 rfl (vp_in_nI (by omega) (by decide)) rfl dX11_startSo_79 ?_
                    refine x_iast (f' := (upd f57_0 ((nI (81 + k57)).toNatClampNeg) (f57_0 (nI (24 + k57)).toNatClampNeg))) (w' := [(qm, .inr (10, [.int 0, .ref mtape, .int 0, .int 0, .int m9, .int 0, .int 0, .int 0, .int 0, .int 0, .int 0, .int 0, .long 0, .int 0, .ref mnow, .ref mread, .ref mkept, .ref msnaps, .ref maside, .ref mname, .ref mreadName, .ref mkeptName, .ref misKept, .ref monces, .int 0, .ref morder, .ref mordered, .int 0, .int 0, .int 0, .int (-1), .int (-1), .ref mtext, .int 0, .int 0, .ref mline, .ref mwritten, .int 0, .int 0, .ref mnode, .int 0, .int 0, .int 0, .int 0])), (mnow, eI G 339 (upd f57_0 ((nI (81 + k57)).toNatClampNeg) (f57_0 (nI (24 + k57)).toNatClampNeg)))]) C hw 1 rfl (vp_in_nI (by omega) (by decide)) rfl rfl dX11_startSo_80 (fun H locs hw => ?_)
                    refine lv_iinc (v := (nI (k57 + 1))) (lv' := [(1, .int (nI (k57 + 1))), (0, .ref qm)]) C.1 C.2.1 dX11_startSo_81 hl (k := 0) rfl (nI_1 k57) (by decide) rfl (fun ls hl => ?_)
                    refine lv_goto (tgt := 57) C.1 C.2.1 dX11_startSo_84 (by decide) ?_
                    exact ih (k57 + 1) (upd f57_0 ((nI (81 + k57)).toNatClampNeg) (f57_0 (nI (24 + k57)).toNatClampNeg)) (by omega) (by omega) _ _ _ hw (lv_sub hl [0, 1] rfl)
              exact loop57 _ 0 f25_0 (Nat.lt_succ_self _) (by decide) _ _ _ hw (lv_sub hl [0, 1] rfl)
            · skip
              have hk28 : k25 < 6 := x_ltN hi25.2 c_28 (by decide)
              refine lv_aload_n C.1 C.2.1 dX11_startSo_31 rfl (lv_at hl 1 rfl) ?_
              refine x_get C hw iwX11 10 rfl 0 rfl 14 (by decide) kw1211 rfl dX11_startSo_32 ?_
              refine lv_bipush (v := 69) C.1 C.2.1 dX11_startSo_35 (by decide) ?_
              refine lv_iload_n C.1 C.2.1 dX11_startSo_37 rfl (lv_at hl 0 rfl) ?_
              refine lv_iadd C.1 C.2.1 dX11_startSo_38 ?_
              refine x_topi (z := (nI (69 + k25))) (nI_add 69 k25) ?_
              refine lv_aload_n C.1 C.2.1 dX11_startSo_39 rfl (lv_at hl 1 rfl) ?_
              refine x_get C hw iwX11 10 rfl 0 rfl 14 (by decide) kw1211 rfl dX11_startSo_40 ?_
              refine lv_bipush (v := 6) C.1 C.2.1 dX11_startSo_43 (by decide) ?_
              refine lv_iload_n C.1 C.2.1 dX11_startSo_45 rfl (lv_at hl 0 rfl) ?_
              refine lv_iadd C.1 C.2.1 dX11_startSo_46 ?_
              refine x_topi (z := (nI (6 + k25))) (nI_add 6 k25) ?_
              refine x_iald (v := (f25_0 (nI (6 + k25)).toNatClampNeg)) C hw 1 rfl (vp_in_nI (by omega) (by decide)) rfl dX11_startSo_47 ?_
              refine x_iast (f' := (upd f25_0 ((nI (69 + k25)).toNatClampNeg) (f25_0 (nI (6 + k25)).toNatClampNeg))) (w' := [(qm, .inr (10, [.int 0, .ref mtape, .int 0, .int 0, .int m9, .int 0, .int 0, .int 0, .int 0, .int 0, .int 0, .int 0, .long 0, .int 0, .ref mnow, .ref mread, .ref mkept, .ref msnaps, .ref maside, .ref mname, .ref mreadName, .ref mkeptName, .ref misKept, .ref monces, .int 0, .ref morder, .ref mordered, .int 0, .int 0, .int 0, .int (-1), .int (-1), .ref mtext, .int 0, .int 0, .ref mline, .ref mwritten, .int 0, .int 0, .ref mnode, .int 0, .int 0, .int 0, .int 0])), (mnow, eI G 339 (upd f25_0 ((nI (69 + k25)).toNatClampNeg) (f25_0 (nI (6 + k25)).toNatClampNeg)))]) C hw 1 rfl (vp_in_nI (by omega) (by decide)) rfl rfl dX11_startSo_48 (fun H locs hw => ?_)
              refine lv_iinc (v := (nI (k25 + 1))) (lv' := [(1, .int (nI (k25 + 1))), (0, .ref qm)]) C.1 C.2.1 dX11_startSo_49 hl (k := 0) rfl (nI_1 k25) (by decide) rfl (fun ls hl => ?_)
              refine lv_goto (tgt := 25) C.1 C.2.1 dX11_startSo_52 (by decide) ?_
              exact ih (k25 + 1) (upd f25_0 ((nI (69 + k25)).toNatClampNeg) (f25_0 (nI (6 + k25)).toNatClampNeg)) (by omega) (by omega) _ _ _ hw (lv_sub hl [0, 1] rfl)
        exact loop25 _ 0 f3_0 (Nat.lt_succ_self _) (by decide) _ _ _ hw (lv_sub hl [0, 1] rfl)
      · skip
        have hk7 : k3 < 339 := x_ltN hi3.2 c_7 (by decide)
        refine lv_aload_n C.1 C.2.1 dX11_startSo_10 rfl (lv_at hl 1 rfl) ?_
        refine x_get C hw iwX11 10 rfl 0 rfl 14 (by decide) kw1211 rfl dX11_startSo_11 ?_
        refine lv_iload_n C.1 C.2.1 dX11_startSo_14 rfl (lv_at hl 0 rfl) ?_
        refine lv_iconst (v := 0) C.1 C.2.1 dX11_startSo_15 (by decide) ?_
        refine x_iast (f' := (upd f3_0 ((nI k3).toNatClampNeg) 0)) (w' := [(qm, .inr (10, [.int 0, .ref mtape, .int 0, .int 0, .int m9, .int 0, .int 0, .int 0, .int 0, .int 0, .int 0, .int 0, .long 0, .int 0, .ref mnow, .ref mread, .ref mkept, .ref msnaps, .ref maside, .ref mname, .ref mreadName, .ref mkeptName, .ref misKept, .ref monces, .int 0, .ref morder, .ref mordered, .int 0, .int 0, .int 0, .int (-1), .int (-1), .ref mtext, .int 0, .int 0, .ref mline, .ref mwritten, .int 0, .int 0, .ref mnode, .int 0, .int 0, .int 0, .int 0])), (mnow, eI G 339 (upd f3_0 ((nI k3).toNatClampNeg) 0))]) C hw 1 rfl (vp_in_nI (by omega) (by decide)) rfl rfl dX11_startSo_16 (fun H locs hw => ?_)
        refine lv_iinc (v := (nI (k3 + 1))) (lv' := [(1, .int (nI (k3 + 1))), (0, .ref qm)]) C.1 C.2.1 dX11_startSo_17 hl (k := 0) rfl (nI_1 k3) (by decide) rfl (fun ls hl => ?_)
        refine lv_goto (tgt := 3) C.1 C.2.1 dX11_startSo_20 (by decide) ?_
        exact ih (k3 + 1) (upd f3_0 ((nI k3).toNatClampNeg) 0) (by omega) (by omega) _ _ _ hw (lv_sub hl [0, 1] rfl)
  exact loop3 _ 64 fn (Nat.lt_succ_self _) (by decide) _ _ _ hw (lv_sub hl [0, 1] rfl)
theorem dX11_session_0 : decode cX11_session 0 = .ok (.aload_n 0, 1) := by decide +kernel
theorem dX11_session_1 : decode cX11_session 1 = .ok (.sipush 900, 3) := by decide +kernel
theorem dX11_session_4 : decode cX11_session 4 = .ok (.invokevirtual 219, 3) := by decide +kernel
theorem mwX11_begin : MwV yX11_begin cX11_begin 2 none 1 := ⟨⟨kw1338, kw15, by decide +kernel⟩, kw1337, kS45⟩
theorem dX11_session_7 : decode cX11_session 7 = .ok (.aload_n 0, 1) := by decide +kernel
theorem dX11_session_8 : decode cX11_session 8 = .ok (.invokevirtual 154, 3) := by decide +kernel
theorem dX11_session_11 : decode cX11_session 11 = .ok (.iconst 0, 1) := by decide +kernel
theorem dX11_session_12 : decode cX11_session 12 = .ok (.istore_n 1, 1) := by decide +kernel
theorem dX11_session_13 : decode cX11_session 13 = .ok (.aload_n 0, 1) := by decide +kernel
theorem dX11_session_14 : decode cX11_session 14 = .ok (.getfield 30, 3) := by decide +kernel
theorem dX11_session_17 : decode cX11_session 17 = .ok (.ifCond .eq 30, 3) := by decide +kernel
theorem dX11_session_47 : decode cX11_session 47 = .ok (.iconst 0, 1) := by decide +kernel
theorem dX11_session_48 : decode cX11_session 48 = .ok (.istore_n 2, 1) := by decide +kernel
theorem dX11_session_49 : decode cX11_session 49 = .ok (.iload_n 2, 1) := by decide +kernel
theorem dX11_session_50 : decode cX11_session 50 = .ok (.bipush 64, 2) := by decide +kernel
theorem dX11_session_52 : decode cX11_session 52 = .ok (.if_icmp .ge 21, 3) := by decide +kernel
theorem dX11_session_73 : decode cX11_session 73 = .ok (.iconst 0, 1) := by decide +kernel
theorem dX11_session_74 : decode cX11_session 74 = .ok (.istore_n 2, 1) := by decide +kernel
theorem dX11_session_75 : decode cX11_session 75 = .ok (.iload_n 2, 1) := by decide +kernel
theorem dX11_session_76 : decode cX11_session 76 = .ok (.bipush 14, 2) := by decide +kernel
theorem dX11_session_78 : decode cX11_session 78 = .ok (.if_icmp .ge 21, 3) := by decide +kernel
theorem dX11_session_99 : decode cX11_session 99 = .ok (.aload_n 0, 1) := by decide +kernel
theorem dX11_session_100 : decode cX11_session 100 = .ok (.invokevirtual 228, 3) := by decide +kernel
theorem mwX11_startSo : MwV yX11_startSo cX11_startSo 2 none 0 := ⟨⟨kw1460, kw15, by decide +kernel⟩, kw1459, kS69⟩
theorem dX11_session_103 : decode cX11_session 103 = .ok (.aload_n 0, 1) := by decide +kernel
theorem dX11_session_104 : decode cX11_session 104 = .ok (.iconst 0, 1) := by decide +kernel
theorem dX11_session_105 : decode cX11_session 105 = .ok (.putfield 231, 3) := by decide +kernel
theorem dX11_session_108 : decode cX11_session 108 = .ok (.iload_n 1, 1) := by decide +kernel
theorem dX11_session_109 : decode cX11_session 109 = .ok (.ireturn, 1) := by decide +kernel
theorem dX11_session_81 : decode cX11_session 81 = .ok (.aload_n 0, 1) := by decide +kernel
theorem dX11_session_82 : decode cX11_session 82 = .ok (.getfield 113, 3) := by decide +kernel
theorem dX11_session_85 : decode cX11_session 85 = .ok (.iload_n 2, 1) := by decide +kernel
theorem dX11_session_86 : decode cX11_session 86 = .ok (.aload_n 0, 1) := by decide +kernel
theorem dX11_session_87 : decode cX11_session 87 = .ok (.getfield 117, 3) := by decide +kernel
theorem dX11_session_90 : decode cX11_session 90 = .ok (.iload_n 2, 1) := by decide +kernel
theorem dX11_session_91 : decode cX11_session 91 = .ok (.laload, 1) := by decide +kernel
theorem dX11_session_92 : decode cX11_session 92 = .ok (.lastore, 1) := by decide +kernel
theorem dX11_session_93 : decode cX11_session 93 = .ok (.iinc 2 1, 3) := by decide +kernel
theorem dX11_session_96 : decode cX11_session 96 = .ok (.goto (-21), 3) := by decide +kernel
theorem dX11_session_55 : decode cX11_session 55 = .ok (.aload_n 0, 1) := by decide +kernel
theorem dX11_session_56 : decode cX11_session 56 = .ok (.getfield 98, 3) := by decide +kernel
theorem dX11_session_59 : decode cX11_session 59 = .ok (.iload_n 2, 1) := by decide +kernel
theorem dX11_session_60 : decode cX11_session 60 = .ok (.aload_n 0, 1) := by decide +kernel
theorem dX11_session_61 : decode cX11_session 61 = .ok (.getfield 101, 3) := by decide +kernel
theorem dX11_session_64 : decode cX11_session 64 = .ok (.iload_n 2, 1) := by decide +kernel
theorem dX11_session_65 : decode cX11_session 65 = .ok (.iaload, 1) := by decide +kernel
theorem dX11_session_66 : decode cX11_session 66 = .ok (.iastore, 1) := by decide +kernel
theorem dX11_session_67 : decode cX11_session 67 = .ok (.iinc 2 1, 3) := by decide +kernel
theorem dX11_session_70 : decode cX11_session 70 = .ok (.goto (-21), 3) := by decide +kernel
set_option maxHeartbeats 4000000 in
set_option maxRecDepth 100000 in
theorem c_X11_session {l : Launch} {G : Gc} (qm : Nat) (mtape : Nat) (mnow : Nat) (mread : Nat) (mkept : Nat) (msnaps : Nat) (maside : Nat) (mname : Nat) (mreadName : Nat) (mkeptName : Nat) (misKept : Nat) (monces : Nat) (morder : Nat) (mordered : Nat) (mtext : Nat) (mline : Nat) (mwritten : Nat) (mnode : Nat)  : Ci l yX11_session cX11_session 3 (some .int) 2 0 0 G [.ref qm] [(qm, .inr (10, [.int 0, .ref mtape, .int 0, .int 0, .int 0, .int 0, .int 0, .int 0, .int 0, .int 0, .int 0, .int 0, .long 0, .int 0, .ref mnow, .ref mread, .ref mkept, .ref msnaps, .ref maside, .ref mname, .ref mreadName, .ref mkeptName, .ref misKept, .ref monces, .int 0, .ref morder, .ref mordered, .int 0, .int 0, .int 0, .int (-1), .int (-1), .ref mtext, .int 0, .int 0, .ref mline, .ref mwritten, .int 0, .int 0, .ref mnode, .int 0, .int 0, .int 0, .int 0])), (mnow, eI G 339 nw0), (mread, eI G 64 rd0), (monces, eZ G 3 (fun _ => 0)), (mname, eJ G 14 (fun _ => 0)), (mreadName, eJ G 14 (fun _ => 0))] (fun (r9 : Int32) (u9 : va_W) => r9 = 0 ∧ u9 = []) := by
  refine Ci.of (by decide) (Nat.le_of_ble_eq_true rfl) ?_
  intro p e s m below meth c ls A B hw hl
  have C : CallFix p m c cX11_session 3 s _ gw "LanternStateModel" := B.1
  have hl : lv_has ls 3 [(0, .ref qm)] := hl
  refine lv_aload_n C.1 C.2.1 dX11_session_0 rfl (lv_at hl 0 rfl) ?_
  refine lv_sipush (v := 900) C.1 C.2.1 dX11_session_1 (by decide) ?_
  refine x_callvV (As := [.int 900]) (rest := []) (wr := [(mnow, eI G 339 nw0), (mread, eI G 64 rd0), (monces, eZ G 3 (fun _ => 0)), (mname, eJ G 14 (fun _ => 0)), (mreadName, eJ G 14 (fun _ => 0))]) C hw (c_X11_begin qm 900 mtape mnow mread mkept msnaps maside mname mreadName mkeptName misKept monces morder mordered mtext mline mwritten mnode (by decide)) mwX11_begin kw1335 [0] [1, 2, 3, 4, 5] rfl rfl rfl rfl (by decide) 0 rfl rfl rfl rfl hl.1 rfl (Nat.le_of_ble_eq_true rfl) ⟨(Nat.le_of_ble_eq_true rfl), (Nat.le_of_ble_eq_true rfl)⟩ ⟨(Nat.le_of_ble_eq_true rfl), (Nat.le_of_ble_eq_true rfl)⟩ dX11_session_4 (fun  u9 H locs hp9 hw => ?_)
  obtain rfl := hp9
  have hw : Wd G s A [(mnow, eI G 339 nw0), (mread, eI G 64 rd0), (monces, eZ G 3 (fun _ => 0)), (mname, eJ G 14 (fun _ => 0)), (mreadName, eJ G 14 (fun _ => 0)), (qm, .inr (10, [.int 0, .ref mtape, .int 0, .int 0, .int 900, .int 0, .int 0, .int 0, .int 0, .int 0, .int 0, .int 0, .long 0, .int 0, .ref mnow, .ref mread, .ref mkept, .ref msnaps, .ref maside, .ref mname, .ref mreadName, .ref mkeptName, .ref misKept, .ref monces, .int 0, .ref morder, .ref mordered, .int 0, .int 0, .int 0, .int (-1), .int (-1), .ref mtext, .int 0, .int 0, .ref mline, .ref mwritten, .int 0, .int 0, .ref mnode, .int 0, .int 0, .int 0, .int 0]))] H _ := hw
  refine lv_aload_n C.1 C.2.1 dX11_session_7 rfl (lv_at hl 0 rfl) ?_
  refine x_callvV (As := []) (rest := []) (wr := [(mnow, eI G 339 nw0), (mname, eJ G 14 (fun _ => 0)), (mreadName, eJ G 14 (fun _ => 0))]) C hw (c_X11_startRead qm mtape 900 mnow mread mkept msnaps maside mname mreadName mkeptName misKept monces morder mordered mtext mline mwritten mnode rd0 (fun _ => 0)) mwX11_startRead kw1193 [5, 1, 2] [0, 3, 4] rfl rfl rfl rfl (by decide) 0 rfl rfl rfl rfl hl.1 rfl (Nat.le_of_ble_eq_true rfl) ⟨(Nat.le_of_ble_eq_true rfl), (Nat.le_of_ble_eq_true rfl)⟩ ⟨(Nat.le_of_ble_eq_true rfl), (Nat.le_of_ble_eq_true rfl)⟩ dX11_session_8 (fun  u9 H locs hp9 hw => ?_)
  obtain ⟨gr_1, go_2, rfl⟩ := hp9
  have hw : Wd G s A [(mnow, eI G 339 nw0), (mname, eJ G 14 (fun _ => 0)), (mreadName, eJ G 14 (fun _ => 0)), (qm, .inr (10, [.int 0, .ref mtape, .int 0, .int 0, .int 900, .int 0, .int 0, .int 0, .int 0, .int 0, .int 0, .int 0, .long 0, .int 0, .ref mnow, .ref mread, .ref mkept, .ref msnaps, .ref maside, .ref mname, .ref mreadName, .ref mkeptName, .ref misKept, .ref monces, .int 0, .ref morder, .ref mordered, .int 0, .int 0, .int 0, .int (-1), .int (-1), .ref mtext, .int 0, .int 0, .ref mline, .ref mwritten, .int 0, .int 0, .ref mnode, .int 0, .int 0, .int 0, .int 0])), (mread, eI G 64 gr_1), (monces, eZ G 3 go_2)] H _ := hw
  refine lv_iconst (v := 0) C.1 C.2.1 dX11_session_11 (by decide) ?_
  refine lv_istore_n (lv' := [(1, .int 0), (0, .ref qm)]) C.1 C.2.1 dX11_session_12 rfl hl (by decide) rfl (fun ls hl => ?_)
  refine lv_aload_n C.1 C.2.1 dX11_session_13 rfl (lv_at hl 1 rfl) ?_
  refine x_get C hw iwX11 10 rfl 3 rfl 7 (by decide) kw1204 rfl dX11_session_14 ?_
  refine lv_if_eq (tgt := 47) C.1 C.2.1 dX11_session_17 (by decide) (fun _ => ?_) (fun h9 => absurd (by decide) h9)
  refine lv_iconst (v := 0) C.1 C.2.1 dX11_session_47 (by decide) ?_
  refine lv_istore_n (lv' := [(2, .int 0), (1, .int 0), (0, .ref qm)]) C.1 C.2.1 dX11_session_48 rfl hl (by decide) rfl (fun ls hl => ?_)
  have loop49 : ∀ (n9 : Nat) (k49 : Nat) (f49_0 : Nat → Int32), 64 - k49 < n9 → 0 ≤ k49 ∧ k49 ≤ 64 → ∀ (H : Heap) (locs : List Loc) (ls : Array Slot), Wd G s A [(mnow, eI G 339 f49_0), (mname, eJ G 14 (fun _ => 0)), (mreadName, eJ G 14 (fun _ => 0)), (qm, .inr (10, [.int 0, .ref mtape, .int 0, .int 0, .int 900, .int 0, .int 0, .int 0, .int 0, .int 0, .int 0, .int 0, .long 0, .int 0, .ref mnow, .ref mread, .ref mkept, .ref msnaps, .ref maside, .ref mname, .ref mreadName, .ref mkeptName, .ref misKept, .ref monces, .int 0, .ref morder, .ref mordered, .int 0, .int 0, .int 0, .int (-1), .int (-1), .ref mtext, .int 0, .int 0, .ref mline, .ref mwritten, .int 0, .int 0, .ref mnode, .int 0, .int 0, .int 0, .int 0])), (mread, eI G 64 gr_1), (monces, eZ G 3 go_2)] H locs → lv_has ls 3 [(2, .int (nI k49)), (1, .int 0), (0, .ref qm)] → W p l e (rmD 2 0 0) s m [.ref qm].toArray below meth c H locs 0 0 (MQ below (va_Qi (fun (r9 : Int32) (u9 : va_W) => r9 = 0 ∧ u9 = []) (mB G A) A) [.ref qm].toArray s 0 0 A) (F0 m 49 ls []) := by
    intro n9
    induction n9 with
    | zero => intro k49 f49_0 h9; exact absurd h9 (Nat.not_lt_zero _)
    | succ n9 ih =>
      intro k49 f49_0 h9 hi49 H locs ls hw hl
      refine lv_iload_n C.1 C.2.1 dX11_session_49 rfl (lv_at hl 0 rfl) ?_
      refine lv_bipush (v := 64) C.1 C.2.1 dX11_session_50 (by decide) ?_
      refine lv_icmp_ge (tgt := 73) C.1 C.2.1 dX11_session_52 (by decide) (fun c_52 => ?_) (fun c_52 => ?_)
      · skip
        refine lv_iconst (v := 0) C.1 C.2.1 dX11_session_73 (by decide) ?_
        refine lv_istore_n (lv' := [(2, .int 0), (1, .int 0), (0, .ref qm)]) C.1 C.2.1 dX11_session_74 rfl hl (by decide) rfl (fun ls hl => ?_)
        have loop75 : ∀ (n9 : Nat) (k75 : Nat) (f75_0 : Nat → Int64), 14 - k75 < n9 → 0 ≤ k75 ∧ k75 ≤ 14 → ∀ (H : Heap) (locs : List Loc) (ls : Array Slot), Wd G s A [(mnow, eI G 339 f49_0), (mname, eJ G 14 f75_0), (mreadName, eJ G 14 (fun _ => 0)), (qm, .inr (10, [.int 0, .ref mtape, .int 0, .int 0, .int 900, .int 0, .int 0, .int 0, .int 0, .int 0, .int 0, .int 0, .long 0, .int 0, .ref mnow, .ref mread, .ref mkept, .ref msnaps, .ref maside, .ref mname, .ref mreadName, .ref mkeptName, .ref misKept, .ref monces, .int 0, .ref morder, .ref mordered, .int 0, .int 0, .int 0, .int (-1), .int (-1), .ref mtext, .int 0, .int 0, .ref mline, .ref mwritten, .int 0, .int 0, .ref mnode, .int 0, .int 0, .int 0, .int 0])), (mread, eI G 64 gr_1), (monces, eZ G 3 go_2)] H locs → lv_has ls 3 [(2, .int (nI k75)), (1, .int 0), (0, .ref qm)] → W p l e (rmD 2 0 0) s m [.ref qm].toArray below meth c H locs 0 0 (MQ below (va_Qi (fun (r9 : Int32) (u9 : va_W) => r9 = 0 ∧ u9 = []) (mB G A) A) [.ref qm].toArray s 0 0 A) (F0 m 75 ls []) := by
          intro n9
          induction n9 with
          | zero => intro k75 f75_0 h9; exact absurd h9 (Nat.not_lt_zero _)
          | succ n9 ih =>
            intro k75 f75_0 h9 hi75 H locs ls hw hl
            refine lv_iload_n C.1 C.2.1 dX11_session_75 rfl (lv_at hl 0 rfl) ?_
            refine lv_bipush (v := 14) C.1 C.2.1 dX11_session_76 (by decide) ?_
            refine lv_icmp_ge (tgt := 99) C.1 C.2.1 dX11_session_78 (by decide) (fun c_78 => ?_) (fun c_78 => ?_)
            · skip
              refine lv_aload_n C.1 C.2.1 dX11_session_99 rfl (lv_at hl 2 rfl) ?_
              refine x_callvV (As := []) (rest := []) (wr := [(mname, eJ G 14 f75_0), (mreadName, eJ G 14 (fun _ => 0)), (mread, eI G 64 gr_1), (monces, eZ G 3 go_2)]) C hw (c_X11_startSo qm mtape 900 mnow mread mkept msnaps maside mname mreadName mkeptName misKept monces morder mordered mtext mline mwritten mnode f49_0) mwX11_startSo kw1457 [3, 0] [1, 2, 4, 5] rfl rfl rfl rfl (by decide) 0 rfl rfl rfl rfl hl.1 rfl (Nat.le_of_ble_eq_true rfl) ⟨(Nat.le_of_ble_eq_true rfl), (Nat.le_of_ble_eq_true rfl)⟩ ⟨(Nat.le_of_ble_eq_true rfl), (Nat.le_of_ble_eq_true rfl)⟩ dX11_session_100 (fun  u9 H locs hp9 hw => ?_)
              obtain ⟨gn_3, rfl⟩ := hp9
              have hw : Wd G s A [(mname, eJ G 14 f75_0), (mreadName, eJ G 14 (fun _ => 0)), (mread, eI G 64 gr_1), (monces, eZ G 3 go_2), (qm, .inr (10, [.int 0, .ref mtape, .int 0, .int 0, .int 900, .int 0, .int 0, .int 0, .int 0, .int 0, .int 0, .int 0, .long 0, .int 0, .ref mnow, .ref mread, .ref mkept, .ref msnaps, .ref maside, .ref mname, .ref mreadName, .ref mkeptName, .ref misKept, .ref monces, .int 0, .ref morder, .ref mordered, .int 0, .int 0, .int 0, .int (-1), .int (-1), .ref mtext, .int 0, .int 0, .ref mline, .ref mwritten, .int 0, .int 0, .ref mnode, .int 0, .int 0, .int 0, .int 0])), (mnow, eI G 339 gn_3)] H _ := hw
              refine lv_aload_n C.1 C.2.1 dX11_session_103 rfl (lv_at hl 2 rfl) ?_
              refine lv_iconst (v := 0) C.1 C.2.1 dX11_session_104 (by decide) ?_
              refine x_put (w' := [(mname, eJ G 14 f75_0), (mreadName, eJ G 14 (fun _ => 0)), (mread, eI G 64 gr_1), (monces, eZ G 3 go_2), (qm, .inr (10, [.int 0, .ref mtape, .int 0, .int 0, .int 900, .int 0, .int 0, .int 0, .int 0, .int 0, .int 0, .int 0, .long 0, .int 0, .ref mnow, .ref mread, .ref mkept, .ref msnaps, .ref maside, .ref mname, .ref mreadName, .ref mkeptName, .ref misKept, .ref monces, .int 0, .ref morder, .ref mordered, .int 0, .int 0, .int 0, .int (-1), .int (-1), .ref mtext, .int 0, .int 0, .ref mline, .ref mwritten, .int 0, .int 0, .ref mnode, .int 0, .int 0, .int 0, .int 0])), (mnow, eI G 339 gn_3)]) C hw iwX11 tyX11_ok nmX11 10 rfl 4 rfl 24 (by decide) kw1221 rfl rfl rfl (Nat.le_of_ble_eq_true rfl) rfl dX11_session_105 (fun H locs hw => ?_)
              refine lv_iload_n C.1 C.2.1 dX11_session_108 rfl (lv_at hl 1 rfl) ?_
              have hw := hw.sub (w' := []) [] rfl rfl
              exact x_reti B hw ⟨rfl, rfl⟩ (Nat.le_of_ble_eq_true rfl) (Nat.le_of_ble_eq_true rfl) dX11_session_109
            · skip
              have hk78 : k75 < 14 := x_ltN hi75.2 c_78 (by decide)
              refine lv_aload_n C.1 C.2.1 dX11_session_81 rfl (lv_at hl 2 rfl) ?_
              refine x_get C hw iwX11 10 rfl 3 rfl 19 (by decide) kw1216 rfl dX11_session_82 ?_
              refine lv_iload_n C.1 C.2.1 dX11_session_85 rfl (lv_at hl 0 rfl) ?_
              refine lv_aload_n C.1 C.2.1 dX11_session_86 rfl (lv_at hl 2 rfl) ?_
              refine x_get C hw iwX11 10 rfl 3 rfl 20 (by decide) kw1217 rfl dX11_session_87 ?_
              refine lv_iload_n C.1 C.2.1 dX11_session_90 rfl (lv_at hl 0 rfl) ?_
              refine x_lald (v := ((fun _ => 0) (nI k75).toNatClampNeg)) C hw 2 rfl (vp_in_nI (by omega) (by decide)) rfl dX11_session_91 ?_
              refine x_last (f' := (vp_updL f75_0 ((nI k75).toNatClampNeg) ((fun _ => 0) (nI k75).toNatClampNeg))) (w' := [(mnow, eI G 339 f49_0), (mname, eJ G 14 (vp_updL f75_0 ((nI k75).toNatClampNeg) ((fun _ => 0) (nI k75).toNatClampNeg))), (mreadName, eJ G 14 (fun _ => 0)), (qm, .inr (10, [.int 0, .ref mtape, .int 0, .int 0, .int 900, .int 0, .int 0, .int 0, .int 0, .int 0, .int 0, .int 0, .long 0, .int 0, .ref mnow, .ref mread, .ref mkept, .ref msnaps, .ref maside, .ref mname, .ref mreadName, .ref mkeptName, .ref misKept, .ref monces, .int 0, .ref morder, .ref mordered, .int 0, .int 0, .int 0, .int (-1), .int (-1), .ref mtext, .int 0, .int 0, .ref mline, .ref mwritten, .int 0, .int 0, .ref mnode, .int 0, .int 0, .int 0, .int 0])), (mread, eI G 64 gr_1), (monces, eZ G 3 go_2)]) C hw 1 rfl (vp_in_nI (by omega) (by decide)) rfl rfl dX11_session_92 (fun H locs hw => ?_)
              refine lv_iinc (v := (nI (k75 + 1))) (lv' := [(2, .int (nI (k75 + 1))), (1, .int 0), (0, .ref qm)]) C.1 C.2.1 dX11_session_93 hl (k := 0) rfl (nI_1 k75) (by decide) rfl (fun ls hl => ?_)
              refine lv_goto (tgt := 75) C.1 C.2.1 dX11_session_96 (by decide) ?_
              exact ih (k75 + 1) (vp_updL f75_0 ((nI k75).toNatClampNeg) ((fun _ => 0) (nI k75).toNatClampNeg)) (by omega) (by omega) _ _ _ hw (lv_sub hl [0, 1, 2] rfl)
        exact loop75 _ 0 (fun _ => 0) (Nat.lt_succ_self _) (by decide) _ _ _ hw (lv_sub hl [0, 1, 2] rfl)
      · skip
        have hk52 : k49 < 64 := x_ltN hi49.2 c_52 (by decide)
        refine lv_aload_n C.1 C.2.1 dX11_session_55 rfl (lv_at hl 2 rfl) ?_
        refine x_get C hw iwX11 10 rfl 3 rfl 14 (by decide) kw1211 rfl dX11_session_56 ?_
        refine lv_iload_n C.1 C.2.1 dX11_session_59 rfl (lv_at hl 0 rfl) ?_
        refine lv_aload_n C.1 C.2.1 dX11_session_60 rfl (lv_at hl 2 rfl) ?_
        refine x_get C hw iwX11 10 rfl 3 rfl 15 (by decide) kw1212 rfl dX11_session_61 ?_
        refine lv_iload_n C.1 C.2.1 dX11_session_64 rfl (lv_at hl 0 rfl) ?_
        refine x_iald (v := (gr_1 (nI k49).toNatClampNeg)) C hw 4 rfl (vp_in_nI (by omega) (by decide)) rfl dX11_session_65 ?_
        refine x_iast (f' := (upd f49_0 ((nI k49).toNatClampNeg) (gr_1 (nI k49).toNatClampNeg))) (w' := [(mnow, eI G 339 (upd f49_0 ((nI k49).toNatClampNeg) (gr_1 (nI k49).toNatClampNeg))), (mname, eJ G 14 (fun _ => 0)), (mreadName, eJ G 14 (fun _ => 0)), (qm, .inr (10, [.int 0, .ref mtape, .int 0, .int 0, .int 900, .int 0, .int 0, .int 0, .int 0, .int 0, .int 0, .int 0, .long 0, .int 0, .ref mnow, .ref mread, .ref mkept, .ref msnaps, .ref maside, .ref mname, .ref mreadName, .ref mkeptName, .ref misKept, .ref monces, .int 0, .ref morder, .ref mordered, .int 0, .int 0, .int 0, .int (-1), .int (-1), .ref mtext, .int 0, .int 0, .ref mline, .ref mwritten, .int 0, .int 0, .ref mnode, .int 0, .int 0, .int 0, .int 0])), (mread, eI G 64 gr_1), (monces, eZ G 3 go_2)]) C hw 0 rfl (vp_in_nI (by omega) (by decide)) rfl rfl dX11_session_66 (fun H locs hw => ?_)
        refine lv_iinc (v := (nI (k49 + 1))) (lv' := [(2, .int (nI (k49 + 1))), (1, .int 0), (0, .ref qm)]) C.1 C.2.1 dX11_session_67 hl (k := 0) rfl (nI_1 k49) (by decide) rfl (fun ls hl => ?_)
        refine lv_goto (tgt := 49) C.1 C.2.1 dX11_session_70 (by decide) ?_
        exact ih (k49 + 1) (upd f49_0 ((nI k49).toNatClampNeg) (gr_1 (nI k49).toNatClampNeg)) (by omega) (by omega) _ _ _ hw (lv_sub hl [0, 1, 2] rfl)
  exact loop49 _ 0 nw0 (Nat.lt_succ_self _) (by decide) _ _ _ hw (lv_sub hl [0, 1, 2] rfl)
theorem dX11_snap_0 : decode cX11_snap 0 = .ok (.aload_n 0, 1) := by decide +kernel
theorem dX11_snap_1 : decode cX11_snap 1 = .ok (.getfield 231, 3) := by decide +kernel
theorem dX11_snap_4 : decode cX11_snap 4 = .ok (.bipush 8, 2) := by decide +kernel
theorem dX11_snap_6 : decode cX11_snap 6 = .ok (.if_icmp .ne 43, 3) := by decide +kernel
theorem dX11_snap_49 : decode cX11_snap 49 = .ok (.iconst 0, 1) := by decide +kernel
theorem dX11_snap_50 : decode cX11_snap 50 = .ok (.istore_n 1, 1) := by decide +kernel
theorem dX11_snap_51 : decode cX11_snap 51 = .ok (.iload_n 1, 1) := by decide +kernel
theorem dX11_snap_52 : decode cX11_snap 52 = .ok (.bipush 33, 2) := by decide +kernel
theorem dX11_snap_54 : decode cX11_snap 54 = .ok (.if_icmp .ge 32, 3) := by decide +kernel
theorem dX11_snap_86 : decode cX11_snap 86 = .ok (.aload_n 0, 1) := by decide +kernel
theorem dX11_snap_87 : decode cX11_snap 87 = .ok (.dup, 1) := by decide +kernel
theorem dX11_snap_88 : decode cX11_snap 88 = .ok (.getfield 231, 3) := by decide +kernel
theorem dX11_snap_91 : decode cX11_snap 91 = .ok (.iconst 1, 1) := by decide +kernel
theorem dX11_snap_92 : decode cX11_snap 92 = .ok (.iadd, 1) := by decide +kernel
theorem dX11_snap_93 : decode cX11_snap 93 = .ok (.putfield 231, 3) := by decide +kernel
theorem dX11_snap_96 : decode cX11_snap 96 = .ok (.return_, 1) := by decide +kernel
theorem dX11_snap_57 : decode cX11_snap 57 = .ok (.aload_n 0, 1) := by decide +kernel
theorem dX11_snap_58 : decode cX11_snap 58 = .ok (.getfield 107, 3) := by decide +kernel
theorem dX11_snap_61 : decode cX11_snap 61 = .ok (.bipush 33, 2) := by decide +kernel
theorem dX11_snap_63 : decode cX11_snap 63 = .ok (.aload_n 0, 1) := by decide +kernel
theorem dX11_snap_64 : decode cX11_snap 64 = .ok (.getfield 231, 3) := by decide +kernel
theorem dX11_snap_67 : decode cX11_snap 67 = .ok (.imul, 1) := by decide +kernel
theorem dX11_snap_68 : decode cX11_snap 68 = .ok (.iload_n 1, 1) := by decide +kernel
theorem dX11_snap_69 : decode cX11_snap 69 = .ok (.iadd, 1) := by decide +kernel
theorem dX11_snap_70 : decode cX11_snap 70 = .ok (.aload_n 0, 1) := by decide +kernel
theorem dX11_snap_71 : decode cX11_snap 71 = .ok (.getfield 98, 3) := by decide +kernel
theorem dX11_snap_74 : decode cX11_snap 74 = .ok (.bipush 64, 2) := by decide +kernel
theorem dX11_snap_76 : decode cX11_snap 76 = .ok (.iload_n 1, 1) := by decide +kernel
theorem dX11_snap_77 : decode cX11_snap 77 = .ok (.iadd, 1) := by decide +kernel
theorem dX11_snap_78 : decode cX11_snap 78 = .ok (.iaload, 1) := by decide +kernel
theorem dX11_snap_79 : decode cX11_snap 79 = .ok (.iastore, 1) := by decide +kernel
theorem dX11_snap_80 : decode cX11_snap 80 = .ok (.iinc 1 1, 3) := by decide +kernel
theorem dX11_snap_83 : decode cX11_snap 83 = .ok (.goto (-32), 3) := by decide +kernel
set_option maxHeartbeats 4000000 in
set_option maxRecDepth 100000 in
theorem c_X11_snap {l : Launch} {G : Gc} (qm : Nat) (mtape : Nat) (m9 : Int32) (mnow : Nat) (mread : Nat) (mkept : Nat) (msnaps : Nat) (maside : Nat) (mname : Nat) (mreadName : Nat) (mkeptName : Nat) (misKept : Nat) (monces : Nat) (morder : Nat) (mordered : Nat) (mtext : Nat) (mline : Nat) (mwritten : Nat) (mnode : Nat) (fn : Nat → Int32) (fs : Nat → Int32)  : Cv l yX11_snap cX11_snap 2 0 0 0 G [.ref qm] [(qm, .inr (10, [.int 0, .ref mtape, .int 0, .int 0, .int m9, .int 0, .int 0, .int 0, .int 0, .int 0, .int 0, .int 0, .long 0, .int 0, .ref mnow, .ref mread, .ref mkept, .ref msnaps, .ref maside, .ref mname, .ref mreadName, .ref mkeptName, .ref misKept, .ref monces, .int 0, .ref morder, .ref mordered, .int 0, .int 0, .int 0, .int (-1), .int (-1), .ref mtext, .int 0, .int 0, .ref mline, .ref mwritten, .int 0, .int 0, .ref mnode, .int 0, .int 0, .int 0, .int 0])), (mnow, eI G 339 fn), (msnaps, eI G 264 fs)] (fun (u9 : va_W) => ∃ (gs : Nat → Int32), u9 = [(qm, .inr (10, [.int 0, .ref mtape, .int 0, .int 0, .int m9, .int 0, .int 0, .int 0, .int 0, .int 0, .int 0, .int 0, .long 0, .int 0, .ref mnow, .ref mread, .ref mkept, .ref msnaps, .ref maside, .ref mname, .ref mreadName, .ref mkeptName, .ref misKept, .ref monces, .int 1, .ref morder, .ref mordered, .int 0, .int 0, .int 0, .int (-1), .int (-1), .ref mtext, .int 0, .int 0, .ref mline, .ref mwritten, .int 0, .int 0, .ref mnode, .int 0, .int 0, .int 0, .int 0])), (mnow, eI G 339 fn), (msnaps, eI G 264 gs)]) := by
  refine Cv.of (by decide) (Nat.le_of_ble_eq_true rfl) ?_
  intro p e s m below meth c ls A B hw hl
  have C : CallFix p m c cX11_snap 2 s _ gw "LanternStateModel" := B.1
  have hl : lv_has ls 2 [(0, .ref qm)] := hl
  refine lv_aload_n C.1 C.2.1 dX11_snap_0 rfl (lv_at hl 0 rfl) ?_
  refine x_get C hw iwX11 10 rfl 0 rfl 24 (by decide) kw1221 rfl dX11_snap_1 ?_
  refine lv_bipush (v := 8) C.1 C.2.1 dX11_snap_4 (by decide) ?_
  refine lv_icmp_ne (tgt := 49) C.1 C.2.1 dX11_snap_6 (by decide) (fun _ => ?_) (fun h9 => absurd h9 (by decide))
  refine lv_iconst (v := 0) C.1 C.2.1 dX11_snap_49 (by decide) ?_
  refine lv_istore_n (lv' := [(1, .int 0), (0, .ref qm)]) C.1 C.2.1 dX11_snap_50 rfl hl (by decide) rfl (fun ls hl => ?_)
  have loop51 : ∀ (n9 : Nat) (k51 : Nat) (f51_0 : Nat → Int32), 33 - k51 < n9 → 0 ≤ k51 ∧ k51 ≤ 33 → ∀ (H : Heap) (locs : List Loc) (ls : Array Slot), Wd G s A [(qm, .inr (10, [.int 0, .ref mtape, .int 0, .int 0, .int m9, .int 0, .int 0, .int 0, .int 0, .int 0, .int 0, .int 0, .long 0, .int 0, .ref mnow, .ref mread, .ref mkept, .ref msnaps, .ref maside, .ref mname, .ref mreadName, .ref mkeptName, .ref misKept, .ref monces, .int 0, .ref morder, .ref mordered, .int 0, .int 0, .int 0, .int (-1), .int (-1), .ref mtext, .int 0, .int 0, .ref mline, .ref mwritten, .int 0, .int 0, .ref mnode, .int 0, .int 0, .int 0, .int 0])), (mnow, eI G 339 fn), (msnaps, eI G 264 f51_0)] H locs → lv_has ls 2 [(1, .int (nI k51)), (0, .ref qm)] → W p l e (rmD 0 0 0) s m [.ref qm].toArray below meth c H locs 0 0 (MQ below (va_Qv (fun (u9 : va_W) => ∃ (gs : Nat → Int32), u9 = [(qm, .inr (10, [.int 0, .ref mtape, .int 0, .int 0, .int m9, .int 0, .int 0, .int 0, .int 0, .int 0, .int 0, .int 0, .long 0, .int 0, .ref mnow, .ref mread, .ref mkept, .ref msnaps, .ref maside, .ref mname, .ref mreadName, .ref mkeptName, .ref misKept, .ref monces, .int 1, .ref morder, .ref mordered, .int 0, .int 0, .int 0, .int (-1), .int (-1), .ref mtext, .int 0, .int 0, .ref mline, .ref mwritten, .int 0, .int 0, .ref mnode, .int 0, .int 0, .int 0, .int 0])), (mnow, eI G 339 fn), (msnaps, eI G 264 gs)]) (mB G A) A) [.ref qm].toArray s 0 0 A) (F0 m 51 ls []) := by
    intro n9
    induction n9 with
    | zero => intro k51 f51_0 h9; exact absurd h9 (Nat.not_lt_zero _)
    | succ n9 ih =>
      intro k51 f51_0 h9 hi51 H locs ls hw hl
      refine lv_iload_n C.1 C.2.1 dX11_snap_51 rfl (lv_at hl 0 rfl) ?_
      refine lv_bipush (v := 33) C.1 C.2.1 dX11_snap_52 (by decide) ?_
      refine lv_icmp_ge (tgt := 86) C.1 C.2.1 dX11_snap_54 (by decide) (fun c_54 => ?_) (fun c_54 => ?_)
      · skip
        refine lv_aload_n C.1 C.2.1 dX11_snap_86 rfl (lv_at hl 1 rfl) ?_
        refine lv_dup C.1 C.2.1 dX11_snap_87 rfl ?_
        refine x_get C hw iwX11 10 rfl 0 rfl 24 (by decide) kw1221 rfl dX11_snap_88 ?_
        refine lv_iconst (v := 1) C.1 C.2.1 dX11_snap_91 (by decide) ?_
        refine lv_iadd C.1 C.2.1 dX11_snap_92 ?_
        refine x_topi (z := 1) (by decide) ?_
        refine x_put (w' := [(qm, .inr (10, [.int 0, .ref mtape, .int 0, .int 0, .int m9, .int 0, .int 0, .int 0, .int 0, .int 0, .int 0, .int 0, .long 0, .int 0, .ref mnow, .ref mread, .ref mkept, .ref msnaps, .ref maside, .ref mname, .ref mreadName, .ref mkeptName, .ref misKept, .ref monces, .int 1, .ref morder, .ref mordered, .int 0, .int 0, .int 0, .int (-1), .int (-1), .ref mtext, .int 0, .int 0, .ref mline, .ref mwritten, .int 0, .int 0, .ref mnode, .int 0, .int 0, .int 0, .int 0])), (mnow, eI G 339 fn), (msnaps, eI G 264 f51_0)]) C hw iwX11 tyX11_ok nmX11 10 rfl 0 rfl 24 (by decide) kw1221 rfl rfl rfl (Nat.le_of_ble_eq_true rfl) rfl dX11_snap_93 (fun H locs hw => ?_)
        exact x_retv B hw ⟨f51_0, rfl⟩ (Nat.le_of_ble_eq_true rfl) (Nat.le_of_ble_eq_true rfl) dX11_snap_96
      · skip
        have hk54 : k51 < 33 := x_ltN hi51.2 c_54 (by decide)
        refine lv_aload_n C.1 C.2.1 dX11_snap_57 rfl (lv_at hl 1 rfl) ?_
        refine x_get C hw iwX11 10 rfl 0 rfl 17 (by decide) kw1214 rfl dX11_snap_58 ?_
        refine lv_bipush (v := 33) C.1 C.2.1 dX11_snap_61 (by decide) ?_
        refine lv_aload_n C.1 C.2.1 dX11_snap_63 rfl (lv_at hl 1 rfl) ?_
        refine x_get C hw iwX11 10 rfl 0 rfl 24 (by decide) kw1221 rfl dX11_snap_64 ?_
        refine lv_imul C.1 C.2.1 dX11_snap_67 ?_
        refine x_topi (z := 0) (by decide) ?_
        refine lv_iload_n C.1 C.2.1 dX11_snap_68 rfl (lv_at hl 0 rfl) ?_
        refine lv_iadd C.1 C.2.1 dX11_snap_69 ?_
        refine x_topi (z := (nI k51)) (Int32.zero_add _) ?_
        refine lv_aload_n C.1 C.2.1 dX11_snap_70 rfl (lv_at hl 1 rfl) ?_
        refine x_get C hw iwX11 10 rfl 0 rfl 14 (by decide) kw1211 rfl dX11_snap_71 ?_
        refine lv_bipush (v := 64) C.1 C.2.1 dX11_snap_74 (by decide) ?_
        refine lv_iload_n C.1 C.2.1 dX11_snap_76 rfl (lv_at hl 0 rfl) ?_
        refine lv_iadd C.1 C.2.1 dX11_snap_77 ?_
        refine x_topi (z := (nI (64 + k51))) (nI_add 64 k51) ?_
        refine x_iald (v := (fn (nI (64 + k51)).toNatClampNeg)) C hw 1 rfl (vp_in_nI (by omega) (by decide)) rfl dX11_snap_78 ?_
        refine x_iast (f' := (upd f51_0 ((nI k51).toNatClampNeg) (fn (nI (64 + k51)).toNatClampNeg))) (w' := [(qm, .inr (10, [.int 0, .ref mtape, .int 0, .int 0, .int m9, .int 0, .int 0, .int 0, .int 0, .int 0, .int 0, .int 0, .long 0, .int 0, .ref mnow, .ref mread, .ref mkept, .ref msnaps, .ref maside, .ref mname, .ref mreadName, .ref mkeptName, .ref misKept, .ref monces, .int 0, .ref morder, .ref mordered, .int 0, .int 0, .int 0, .int (-1), .int (-1), .ref mtext, .int 0, .int 0, .ref mline, .ref mwritten, .int 0, .int 0, .ref mnode, .int 0, .int 0, .int 0, .int 0])), (mnow, eI G 339 fn), (msnaps, eI G 264 (upd f51_0 ((nI k51).toNatClampNeg) (fn (nI (64 + k51)).toNatClampNeg)))]) C hw 2 rfl (vp_in_nI (by omega) (by decide)) rfl rfl dX11_snap_79 (fun H locs hw => ?_)
        refine lv_iinc (v := (nI (k51 + 1))) (lv' := [(1, .int (nI (k51 + 1))), (0, .ref qm)]) C.1 C.2.1 dX11_snap_80 hl (k := 0) rfl (nI_1 k51) (by decide) rfl (fun ls hl => ?_)
        refine lv_goto (tgt := 51) C.1 C.2.1 dX11_snap_83 (by decide) ?_
        exact ih (k51 + 1) (upd f51_0 ((nI k51).toNatClampNeg) (fn (nI (64 + k51)).toNatClampNeg)) (by omega) (by omega) _ _ _ hw (lv_sub hl [0, 1] rfl)
  exact loop51 _ 0 fs (Nat.lt_succ_self _) (by decide) _ _ _ hw (lv_sub hl [0, 1] rfl)
theorem dX11_oneHour_0 : decode cX11_oneHour 0 = .ok (.aload_n 0, 1) := by decide +kernel
theorem dX11_oneHour_1 : decode cX11_oneHour 1 = .ok (.getfield 98, 3) := by decide +kernel
theorem dX11_oneHour_4 : decode cX11_oneHour 4 = .ok (.bipush 65, 2) := by decide +kernel
theorem dX11_oneHour_6 : decode cX11_oneHour 6 = .ok (.aload_n 0, 1) := by decide +kernel
theorem dX11_oneHour_7 : decode cX11_oneHour 7 = .ok (.getfield 98, 3) := by decide +kernel
theorem dX11_oneHour_10 : decode cX11_oneHour 10 = .ok (.bipush 65, 2) := by decide +kernel
theorem dX11_oneHour_12 : decode cX11_oneHour 12 = .ok (.iaload, 1) := by decide +kernel
theorem dX11_oneHour_13 : decode cX11_oneHour 13 = .ok (.iconst 5, 1) := by decide +kernel
theorem dX11_oneHour_14 : decode cX11_oneHour 14 = .ok (.if_icmp .le 15, 3) := by decide +kernel
theorem dX11_oneHour_29 : decode cX11_oneHour 29 = .ok (.iconst 0, 1) := by decide +kernel
theorem dX11_oneHour_30 : decode cX11_oneHour 30 = .ok (.iastore, 1) := by decide +kernel
theorem dX11_oneHour_31 : decode cX11_oneHour 31 = .ok (.aload_n 0, 1) := by decide +kernel
theorem dX11_oneHour_32 : decode cX11_oneHour 32 = .ok (.getfield 98, 3) := by decide +kernel
theorem dX11_oneHour_35 : decode cX11_oneHour 35 = .ok (.bipush 65, 2) := by decide +kernel
theorem dX11_oneHour_37 : decode cX11_oneHour 37 = .ok (.iaload, 1) := by decide +kernel
theorem dX11_oneHour_38 : decode cX11_oneHour 38 = .ok (.ifCond .ne 11, 3) := by decide +kernel
theorem dX11_oneHour_49 : decode cX11_oneHour 49 = .ok (.aload_n 0, 1) := by decide +kernel
theorem dX11_oneHour_50 : decode cX11_oneHour 50 = .ok (.getfield 98, 3) := by decide +kernel
theorem dX11_oneHour_53 : decode cX11_oneHour 53 = .ok (.bipush 64, 2) := by decide +kernel
theorem dX11_oneHour_55 : decode cX11_oneHour 55 = .ok (.dup2, 1) := by decide +kernel
theorem dX11_oneHour_56 : decode cX11_oneHour 56 = .ok (.iaload, 1) := by decide +kernel
theorem dX11_oneHour_57 : decode cX11_oneHour 57 = .ok (.iconst 1, 1) := by decide +kernel
theorem dX11_oneHour_58 : decode cX11_oneHour 58 = .ok (.iadd, 1) := by decide +kernel
theorem dX11_oneHour_59 : decode cX11_oneHour 59 = .ok (.iastore, 1) := by decide +kernel
theorem dX11_oneHour_60 : decode cX11_oneHour 60 = .ok (.return_, 1) := by decide +kernel
theorem dX11_oneHour_41 : decode cX11_oneHour 41 = .ok (.aload_n 0, 1) := by decide +kernel
theorem dX11_oneHour_42 : decode cX11_oneHour 42 = .ok (.getfield 98, 3) := by decide +kernel
theorem dX11_oneHour_45 : decode cX11_oneHour 45 = .ok (.bipush 66, 2) := by decide +kernel
theorem dX11_oneHour_47 : decode cX11_oneHour 47 = .ok (.iconst 0, 1) := by decide +kernel
theorem dX11_oneHour_48 : decode cX11_oneHour 48 = .ok (.iastore, 1) := by decide +kernel
theorem dX11_oneHour_17 : decode cX11_oneHour 17 = .ok (.aload_n 0, 1) := by decide +kernel
theorem dX11_oneHour_18 : decode cX11_oneHour 18 = .ok (.getfield 98, 3) := by decide +kernel
theorem dX11_oneHour_21 : decode cX11_oneHour 21 = .ok (.bipush 65, 2) := by decide +kernel
theorem dX11_oneHour_23 : decode cX11_oneHour 23 = .ok (.iaload, 1) := by decide +kernel
theorem dX11_oneHour_24 : decode cX11_oneHour 24 = .ok (.iconst 5, 1) := by decide +kernel
theorem dX11_oneHour_25 : decode cX11_oneHour 25 = .ok (.isub, 1) := by decide +kernel
theorem dX11_oneHour_26 : decode cX11_oneHour 26 = .ok (.goto 4, 3) := by decide +kernel
set_option maxHeartbeats 4000000 in
set_option maxRecDepth 100000 in
theorem c_X11_oneHour {l : Launch} {G : Gc} (qm : Nat) (mtape : Nat) (mnow : Nat) (mread : Nat) (mkept : Nat) (msnaps : Nat) (maside : Nat) (mname : Nat) (mreadName : Nat) (mkeptName : Nat) (misKept : Nat) (monces : Nat) (morder : Nat) (mordered : Nat) (mtext : Nat) (mline : Nat) (mwritten : Nat) (mnode : Nat) (fn : Nat → Int32)  : Cv l yX11_oneHour cX11_oneHour 1 0 0 0 G [.ref qm] [(qm, .inr (10, [.int 0, .ref mtape, .int 0, .int 0, .int 0, .int 0, .int 0, .int 0, .int 0, .int 0, .int 0, .int 0, .long 0, .int 0, .ref mnow, .ref mread, .ref mkept, .ref msnaps, .ref maside, .ref mname, .ref mreadName, .ref mkeptName, .ref misKept, .ref monces, .int 1, .ref morder, .ref mordered, .int 0, .int 0, .int 0, .int (-1), .int (-1), .ref mtext, .int 0, .int 0, .ref mline, .ref mwritten, .int 0, .int 0, .ref mnode, .int 0, .int 0, .int 0, .int 0])), (mnow, eI G 339 fn)] (fun (u9 : va_W) => ∃ (gn : Nat → Int32), u9 = [(qm, .inr (10, [.int 0, .ref mtape, .int 0, .int 0, .int 0, .int 0, .int 0, .int 0, .int 0, .int 0, .int 0, .int 0, .long 0, .int 0, .ref mnow, .ref mread, .ref mkept, .ref msnaps, .ref maside, .ref mname, .ref mreadName, .ref mkeptName, .ref misKept, .ref monces, .int 1, .ref morder, .ref mordered, .int 0, .int 0, .int 0, .int (-1), .int (-1), .ref mtext, .int 0, .int 0, .ref mline, .ref mwritten, .int 0, .int 0, .ref mnode, .int 0, .int 0, .int 0, .int 0])), (mnow, eI G 339 gn)]) := by
  refine Cv.of (by decide) (Nat.le_of_ble_eq_true rfl) ?_
  intro p e s m below meth c ls A B hw hl
  have C : CallFix p m c cX11_oneHour 1 s _ gw "LanternStateModel" := B.1
  have hl : lv_has ls 1 [(0, .ref qm)] := hl
  refine lv_aload_n C.1 C.2.1 dX11_oneHour_0 rfl (lv_at hl 0 rfl) ?_
  refine x_get C hw iwX11 10 rfl 0 rfl 14 (by decide) kw1211 rfl dX11_oneHour_1 ?_
  refine lv_bipush (v := 65) C.1 C.2.1 dX11_oneHour_4 (by decide) ?_
  refine lv_aload_n C.1 C.2.1 dX11_oneHour_6 rfl (lv_at hl 0 rfl) ?_
  refine x_get C hw iwX11 10 rfl 0 rfl 14 (by decide) kw1211 rfl dX11_oneHour_7 ?_
  refine lv_bipush (v := 65) C.1 C.2.1 dX11_oneHour_10 (by decide) ?_
  refine x_iald (v := (fn 65)) C hw 1 rfl (x_in rfl) rfl dX11_oneHour_12 ?_
  refine lv_iconst (v := 5) C.1 C.2.1 dX11_oneHour_13 (by decide) ?_
  refine lv_icmp_le (tgt := 29) C.1 C.2.1 dX11_oneHour_14 (by decide) (fun c_14 => ?_) (fun c_14 => ?_)
  · skip
    refine lv_iconst (v := 0) C.1 C.2.1 dX11_oneHour_29 (by decide) ?_
    refine x_iast (f' := (upd fn 65 0)) (w' := [(qm, .inr (10, [.int 0, .ref mtape, .int 0, .int 0, .int 0, .int 0, .int 0, .int 0, .int 0, .int 0, .int 0, .int 0, .long 0, .int 0, .ref mnow, .ref mread, .ref mkept, .ref msnaps, .ref maside, .ref mname, .ref mreadName, .ref mkeptName, .ref misKept, .ref monces, .int 1, .ref morder, .ref mordered, .int 0, .int 0, .int 0, .int (-1), .int (-1), .ref mtext, .int 0, .int 0, .ref mline, .ref mwritten, .int 0, .int 0, .ref mnode, .int 0, .int 0, .int 0, .int 0])), (mnow, eI G 339 (upd fn 65 0))]) C hw 1 rfl (x_in rfl) rfl rfl dX11_oneHour_30 (fun H locs hw => ?_)
    refine lv_aload_n C.1 C.2.1 dX11_oneHour_31 rfl (lv_at hl 0 rfl) ?_
    refine x_get C hw iwX11 10 rfl 0 rfl 14 (by decide) kw1211 rfl dX11_oneHour_32 ?_
    refine lv_bipush (v := 65) C.1 C.2.1 dX11_oneHour_35 (by decide) ?_
    refine x_iald (v := ((upd fn 65 0) 65)) C hw 1 rfl (x_in rfl) rfl dX11_oneHour_37 ?_
    refine lv_if_ne (tgt := 49) C.1 C.2.1 dX11_oneHour_38 (by decide) (fun c_38 => ?_) (fun c_38 => ?_)
    · skip
      refine lv_aload_n C.1 C.2.1 dX11_oneHour_49 rfl (lv_at hl 0 rfl) ?_
      refine x_get C hw iwX11 10 rfl 0 rfl 14 (by decide) kw1211 rfl dX11_oneHour_50 ?_
      refine lv_bipush (v := 64) C.1 C.2.1 dX11_oneHour_53 (by decide) ?_
      refine lv_dup2_11 C.1 C.2.1 dX11_oneHour_55 rfl rfl ?_
      refine x_iald (v := ((upd fn 65 0) 64)) C hw 1 rfl (x_in rfl) rfl dX11_oneHour_56 ?_
      refine lv_iconst (v := 1) C.1 C.2.1 dX11_oneHour_57 (by decide) ?_
      refine lv_iadd C.1 C.2.1 dX11_oneHour_58 ?_
      refine x_iast (f' := (upd (upd fn 65 0) 64 (((upd fn 65 0) 64) + 1))) (w' := [(qm, .inr (10, [.int 0, .ref mtape, .int 0, .int 0, .int 0, .int 0, .int 0, .int 0, .int 0, .int 0, .int 0, .int 0, .long 0, .int 0, .ref mnow, .ref mread, .ref mkept, .ref msnaps, .ref maside, .ref mname, .ref mreadName, .ref mkeptName, .ref misKept, .ref monces, .int 1, .ref morder, .ref mordered, .int 0, .int 0, .int 0, .int (-1), .int (-1), .ref mtext, .int 0, .int 0, .ref mline, .ref mwritten, .int 0, .int 0, .ref mnode, .int 0, .int 0, .int 0, .int 0])), (mnow, eI G 339 (upd (upd fn 65 0) 64 (((upd fn 65 0) 64) + 1)))]) C hw 1 rfl (x_in rfl) rfl rfl dX11_oneHour_59 (fun H locs hw => ?_)
      exact x_retv B hw ⟨(upd (upd fn 65 0) 64 (((upd fn 65 0) 64) + 1)), rfl⟩ (Nat.le_of_ble_eq_true rfl) (Nat.le_of_ble_eq_true rfl) dX11_oneHour_60
    · skip
      refine lv_aload_n C.1 C.2.1 dX11_oneHour_41 rfl (lv_at hl 0 rfl) ?_
      refine x_get C hw iwX11 10 rfl 0 rfl 14 (by decide) kw1211 rfl dX11_oneHour_42 ?_
      refine lv_bipush (v := 66) C.1 C.2.1 dX11_oneHour_45 (by decide) ?_
      refine lv_iconst (v := 0) C.1 C.2.1 dX11_oneHour_47 (by decide) ?_
      refine x_iast (f' := (upd (upd fn 65 0) 66 0)) (w' := [(qm, .inr (10, [.int 0, .ref mtape, .int 0, .int 0, .int 0, .int 0, .int 0, .int 0, .int 0, .int 0, .int 0, .int 0, .long 0, .int 0, .ref mnow, .ref mread, .ref mkept, .ref msnaps, .ref maside, .ref mname, .ref mreadName, .ref mkeptName, .ref misKept, .ref monces, .int 1, .ref morder, .ref mordered, .int 0, .int 0, .int 0, .int (-1), .int (-1), .ref mtext, .int 0, .int 0, .ref mline, .ref mwritten, .int 0, .int 0, .ref mnode, .int 0, .int 0, .int 0, .int 0])), (mnow, eI G 339 (upd (upd fn 65 0) 66 0))]) C hw 1 rfl (x_in rfl) rfl rfl dX11_oneHour_48 (fun H locs hw => ?_)
      refine lv_aload_n C.1 C.2.1 dX11_oneHour_49 rfl (lv_at hl 0 rfl) ?_
      refine x_get C hw iwX11 10 rfl 0 rfl 14 (by decide) kw1211 rfl dX11_oneHour_50 ?_
      refine lv_bipush (v := 64) C.1 C.2.1 dX11_oneHour_53 (by decide) ?_
      refine lv_dup2_11 C.1 C.2.1 dX11_oneHour_55 rfl rfl ?_
      refine x_iald (v := ((upd (upd fn 65 0) 66 0) 64)) C hw 1 rfl (x_in rfl) rfl dX11_oneHour_56 ?_
      refine lv_iconst (v := 1) C.1 C.2.1 dX11_oneHour_57 (by decide) ?_
      refine lv_iadd C.1 C.2.1 dX11_oneHour_58 ?_
      refine x_iast (f' := (upd (upd (upd fn 65 0) 66 0) 64 (((upd (upd fn 65 0) 66 0) 64) + 1))) (w' := [(qm, .inr (10, [.int 0, .ref mtape, .int 0, .int 0, .int 0, .int 0, .int 0, .int 0, .int 0, .int 0, .int 0, .int 0, .long 0, .int 0, .ref mnow, .ref mread, .ref mkept, .ref msnaps, .ref maside, .ref mname, .ref mreadName, .ref mkeptName, .ref misKept, .ref monces, .int 1, .ref morder, .ref mordered, .int 0, .int 0, .int 0, .int (-1), .int (-1), .ref mtext, .int 0, .int 0, .ref mline, .ref mwritten, .int 0, .int 0, .ref mnode, .int 0, .int 0, .int 0, .int 0])), (mnow, eI G 339 (upd (upd (upd fn 65 0) 66 0) 64 (((upd (upd fn 65 0) 66 0) 64) + 1)))]) C hw 1 rfl (x_in rfl) rfl rfl dX11_oneHour_59 (fun H locs hw => ?_)
      exact x_retv B hw ⟨(upd (upd (upd fn 65 0) 66 0) 64 (((upd (upd fn 65 0) 66 0) 64) + 1)), rfl⟩ (Nat.le_of_ble_eq_true rfl) (Nat.le_of_ble_eq_true rfl) dX11_oneHour_60
  · skip
    refine lv_aload_n C.1 C.2.1 dX11_oneHour_17 rfl (lv_at hl 0 rfl) ?_
    refine x_get C hw iwX11 10 rfl 0 rfl 14 (by decide) kw1211 rfl dX11_oneHour_18 ?_
    refine lv_bipush (v := 65) C.1 C.2.1 dX11_oneHour_21 (by decide) ?_
    refine x_iald (v := (fn 65)) C hw 1 rfl (x_in rfl) rfl dX11_oneHour_23 ?_
    refine lv_iconst (v := 5) C.1 C.2.1 dX11_oneHour_24 (by decide) ?_
    refine lv_isub C.1 C.2.1 dX11_oneHour_25 ?_
    refine lv_goto (tgt := 30) C.1 C.2.1 dX11_oneHour_26 (by decide) ?_
    refine x_iast (f' := (upd fn 65 ((fn 65) - 5))) (w' := [(qm, .inr (10, [.int 0, .ref mtape, .int 0, .int 0, .int 0, .int 0, .int 0, .int 0, .int 0, .int 0, .int 0, .int 0, .long 0, .int 0, .ref mnow, .ref mread, .ref mkept, .ref msnaps, .ref maside, .ref mname, .ref mreadName, .ref mkeptName, .ref misKept, .ref monces, .int 1, .ref morder, .ref mordered, .int 0, .int 0, .int 0, .int (-1), .int (-1), .ref mtext, .int 0, .int 0, .ref mline, .ref mwritten, .int 0, .int 0, .ref mnode, .int 0, .int 0, .int 0, .int 0])), (mnow, eI G 339 (upd fn 65 ((fn 65) - 5)))]) C hw 1 rfl (x_in rfl) rfl rfl dX11_oneHour_30 (fun H locs hw => ?_)
    refine lv_aload_n C.1 C.2.1 dX11_oneHour_31 rfl (lv_at hl 0 rfl) ?_
    refine x_get C hw iwX11 10 rfl 0 rfl 14 (by decide) kw1211 rfl dX11_oneHour_32 ?_
    refine lv_bipush (v := 65) C.1 C.2.1 dX11_oneHour_35 (by decide) ?_
    refine x_iald (v := ((upd fn 65 ((fn 65) - 5)) 65)) C hw 1 rfl (x_in rfl) rfl dX11_oneHour_37 ?_
    refine lv_if_ne (tgt := 49) C.1 C.2.1 dX11_oneHour_38 (by decide) (fun c_38 => ?_) (fun c_38 => ?_)
    · skip
      refine lv_aload_n C.1 C.2.1 dX11_oneHour_49 rfl (lv_at hl 0 rfl) ?_
      refine x_get C hw iwX11 10 rfl 0 rfl 14 (by decide) kw1211 rfl dX11_oneHour_50 ?_
      refine lv_bipush (v := 64) C.1 C.2.1 dX11_oneHour_53 (by decide) ?_
      refine lv_dup2_11 C.1 C.2.1 dX11_oneHour_55 rfl rfl ?_
      refine x_iald (v := ((upd fn 65 ((fn 65) - 5)) 64)) C hw 1 rfl (x_in rfl) rfl dX11_oneHour_56 ?_
      refine lv_iconst (v := 1) C.1 C.2.1 dX11_oneHour_57 (by decide) ?_
      refine lv_iadd C.1 C.2.1 dX11_oneHour_58 ?_
      refine x_iast (f' := (upd (upd fn 65 ((fn 65) - 5)) 64 (((upd fn 65 ((fn 65) - 5)) 64) + 1))) (w' := [(qm, .inr (10, [.int 0, .ref mtape, .int 0, .int 0, .int 0, .int 0, .int 0, .int 0, .int 0, .int 0, .int 0, .int 0, .long 0, .int 0, .ref mnow, .ref mread, .ref mkept, .ref msnaps, .ref maside, .ref mname, .ref mreadName, .ref mkeptName, .ref misKept, .ref monces, .int 1, .ref morder, .ref mordered, .int 0, .int 0, .int 0, .int (-1), .int (-1), .ref mtext, .int 0, .int 0, .ref mline, .ref mwritten, .int 0, .int 0, .ref mnode, .int 0, .int 0, .int 0, .int 0])), (mnow, eI G 339 (upd (upd fn 65 ((fn 65) - 5)) 64 (((upd fn 65 ((fn 65) - 5)) 64) + 1)))]) C hw 1 rfl (x_in rfl) rfl rfl dX11_oneHour_59 (fun H locs hw => ?_)
      exact x_retv B hw ⟨(upd (upd fn 65 ((fn 65) - 5)) 64 (((upd fn 65 ((fn 65) - 5)) 64) + 1)), rfl⟩ (Nat.le_of_ble_eq_true rfl) (Nat.le_of_ble_eq_true rfl) dX11_oneHour_60
    · skip
      refine lv_aload_n C.1 C.2.1 dX11_oneHour_41 rfl (lv_at hl 0 rfl) ?_
      refine x_get C hw iwX11 10 rfl 0 rfl 14 (by decide) kw1211 rfl dX11_oneHour_42 ?_
      refine lv_bipush (v := 66) C.1 C.2.1 dX11_oneHour_45 (by decide) ?_
      refine lv_iconst (v := 0) C.1 C.2.1 dX11_oneHour_47 (by decide) ?_
      refine x_iast (f' := (upd (upd fn 65 ((fn 65) - 5)) 66 0)) (w' := [(qm, .inr (10, [.int 0, .ref mtape, .int 0, .int 0, .int 0, .int 0, .int 0, .int 0, .int 0, .int 0, .int 0, .int 0, .long 0, .int 0, .ref mnow, .ref mread, .ref mkept, .ref msnaps, .ref maside, .ref mname, .ref mreadName, .ref mkeptName, .ref misKept, .ref monces, .int 1, .ref morder, .ref mordered, .int 0, .int 0, .int 0, .int (-1), .int (-1), .ref mtext, .int 0, .int 0, .ref mline, .ref mwritten, .int 0, .int 0, .ref mnode, .int 0, .int 0, .int 0, .int 0])), (mnow, eI G 339 (upd (upd fn 65 ((fn 65) - 5)) 66 0))]) C hw 1 rfl (x_in rfl) rfl rfl dX11_oneHour_48 (fun H locs hw => ?_)
      refine lv_aload_n C.1 C.2.1 dX11_oneHour_49 rfl (lv_at hl 0 rfl) ?_
      refine x_get C hw iwX11 10 rfl 0 rfl 14 (by decide) kw1211 rfl dX11_oneHour_50 ?_
      refine lv_bipush (v := 64) C.1 C.2.1 dX11_oneHour_53 (by decide) ?_
      refine lv_dup2_11 C.1 C.2.1 dX11_oneHour_55 rfl rfl ?_
      refine x_iald (v := ((upd (upd fn 65 ((fn 65) - 5)) 66 0) 64)) C hw 1 rfl (x_in rfl) rfl dX11_oneHour_56 ?_
      refine lv_iconst (v := 1) C.1 C.2.1 dX11_oneHour_57 (by decide) ?_
      refine lv_iadd C.1 C.2.1 dX11_oneHour_58 ?_
      refine x_iast (f' := (upd (upd (upd fn 65 ((fn 65) - 5)) 66 0) 64 (((upd (upd fn 65 ((fn 65) - 5)) 66 0) 64) + 1))) (w' := [(qm, .inr (10, [.int 0, .ref mtape, .int 0, .int 0, .int 0, .int 0, .int 0, .int 0, .int 0, .int 0, .int 0, .int 0, .long 0, .int 0, .ref mnow, .ref mread, .ref mkept, .ref msnaps, .ref maside, .ref mname, .ref mreadName, .ref mkeptName, .ref misKept, .ref monces, .int 1, .ref morder, .ref mordered, .int 0, .int 0, .int 0, .int (-1), .int (-1), .ref mtext, .int 0, .int 0, .ref mline, .ref mwritten, .int 0, .int 0, .ref mnode, .int 0, .int 0, .int 0, .int 0])), (mnow, eI G 339 (upd (upd (upd fn 65 ((fn 65) - 5)) 66 0) 64 (((upd (upd fn 65 ((fn 65) - 5)) 66 0) 64) + 1)))]) C hw 1 rfl (x_in rfl) rfl rfl dX11_oneHour_59 (fun H locs hw => ?_)
      exact x_retv B hw ⟨(upd (upd (upd fn 65 ((fn 65) - 5)) 66 0) 64 (((upd (upd fn 65 ((fn 65) - 5)) 66 0) 64) + 1)), rfl⟩ (Nat.le_of_ble_eq_true rfl) (Nat.le_of_ble_eq_true rfl) dX11_oneHour_60
theorem dX11_least_0 : decode cX11_least 0 = .ok (.iload_n 0, 1) := by decide +kernel
theorem dX11_least_1 : decode cX11_least 1 = .ok (.iload_n 1, 1) := by decide +kernel
theorem dX11_least_2 : decode cX11_least 2 = .ok (.if_icmp .ge 7, 3) := by decide +kernel
theorem dX11_least_5 : decode cX11_least 5 = .ok (.iload_n 0, 1) := by decide +kernel
theorem dX11_least_6 : decode cX11_least 6 = .ok (.goto 4, 3) := by decide +kernel
theorem dX11_least_10 : decode cX11_least 10 = .ok (.ireturn, 1) := by decide +kernel
set_option maxHeartbeats 4000000 in
set_option maxRecDepth 100000 in
theorem c_X11_least {l : Launch} {G : Gc} (j9 : Nat) (hj : j9 ≤ 24) : Ci l yX11_least cX11_least 2 (some .int) 0 0 0 G [.int (nI j9), .int 400] [] (fun (r9 : Int32) (u9 : va_W) => r9 = (nI j9) ∧ u9 = []) := by
  refine Ci.of (by decide) (Nat.le_of_ble_eq_true rfl) ?_
  intro p e s m below meth c ls A B hw hl
  have C : CallFix p m c cX11_least 2 s _ gw "LanternStateModel" := B.1
  have hl : lv_has ls 2 [(0, .int (nI j9)), (1, .int 400)] := hl
  refine lv_iload_n C.1 C.2.1 dX11_least_0 rfl (lv_at hl 0 rfl) ?_
  refine lv_iload_n C.1 C.2.1 dX11_least_1 rfl (lv_at hl 1 rfl) ?_
  refine lv_icmp_ge (tgt := 9) C.1 C.2.1 dX11_least_2 (by decide) (fun h9 => absurd h9 (nI_ge (a := j9) (b := 400) (by omega) (by decide))) (fun _ => ?_)
  refine lv_iload_n C.1 C.2.1 dX11_least_5 rfl (lv_at hl 0 rfl) ?_
  refine lv_goto (tgt := 10) C.1 C.2.1 dX11_least_6 (by decide) ?_
  exact x_reti B hw ⟨rfl, rfl⟩ (Nat.le_of_ble_eq_true rfl) (Nat.le_of_ble_eq_true rfl) dX11_least_10
theorem dX11_passHours_0 : decode cX11_passHours 0 = .ok (.iload_n 1, 1) := by decide +kernel
theorem dX11_passHours_1 : decode cX11_passHours 1 = .ok (.sipush 400, 3) := by decide +kernel
theorem dX11_passHours_4 : decode cX11_passHours 4 = .ok (.aload_n 0, 1) := by decide +kernel
theorem dX11_passHours_5 : decode cX11_passHours 5 = .ok (.getfield 98, 3) := by decide +kernel
theorem dX11_passHours_8 : decode cX11_passHours 8 = .ok (.bipush 64, 2) := by decide +kernel
theorem dX11_passHours_10 : decode cX11_passHours 10 = .ok (.iaload, 1) := by decide +kernel
theorem dX11_passHours_11 : decode cX11_passHours 11 = .ok (.isub, 1) := by decide +kernel
theorem dX11_passHours_12 : decode cX11_passHours 12 = .ok (.invokestatic 298, 3) := by decide +kernel
theorem mwX11_least : MwS yX11_least cX11_least 2 (some .int) 2 := ⟨⟨kw1607, kw15, by decide +kernel⟩, kw1606⟩
theorem dX11_passHours_15 : decode cX11_passHours 15 = .ok (.istore_n 2, 1) := by decide +kernel
theorem dX11_passHours_16 : decode cX11_passHours 16 = .ok (.iconst 0, 1) := by decide +kernel
theorem dX11_passHours_17 : decode cX11_passHours 17 = .ok (.istore_n 3, 1) := by decide +kernel
theorem dX11_passHours_18 : decode cX11_passHours 18 = .ok (.iload_n 3, 1) := by decide +kernel
theorem dX11_passHours_19 : decode cX11_passHours 19 = .ok (.iload_n 2, 1) := by decide +kernel
theorem dX11_passHours_20 : decode cX11_passHours 20 = .ok (.if_icmp .ge 13, 3) := by decide +kernel
theorem dX11_passHours_33 : decode cX11_passHours 33 = .ok (.iload_n 2, 1) := by decide +kernel
theorem dX11_passHours_34 : decode cX11_passHours 34 = .ok (.ireturn, 1) := by decide +kernel
theorem dX11_passHours_23 : decode cX11_passHours 23 = .ok (.aload_n 0, 1) := by decide +kernel
theorem dX11_passHours_24 : decode cX11_passHours 24 = .ok (.invokevirtual 301, 3) := by decide +kernel
theorem mwX11_oneHour : MwV yX11_oneHour cX11_oneHour 1 none 0 := ⟨⟨kw1611, kw15, by decide +kernel⟩, kw1610, kS88⟩
theorem dX11_passHours_27 : decode cX11_passHours 27 = .ok (.iinc 3 1, 3) := by decide +kernel
theorem dX11_passHours_30 : decode cX11_passHours 30 = .ok (.goto (-12), 3) := by decide +kernel
set_option maxHeartbeats 4000000 in
set_option maxRecDepth 100000 in
theorem c_X11_passHours {l : Launch} {G : Gc} (qm : Nat) (mtape : Nat) (mnow : Nat) (mread : Nat) (mkept : Nat) (msnaps : Nat) (maside : Nat) (mname : Nat) (mreadName : Nat) (mkeptName : Nat) (misKept : Nat) (monces : Nat) (morder : Nat) (mordered : Nat) (mtext : Nat) (mline : Nat) (mwritten : Nat) (mnode : Nat) (j9 : Nat) (hj : j9 ≤ 24) : Ci l yX11_passHours cX11_passHours 4 (some .int) 1 0 0 G [.ref qm, .int (nI j9)] [(qm, .inr (10, [.int 0, .ref mtape, .int 0, .int 0, .int 0, .int 0, .int 0, .int 0, .int 0, .int 0, .int 0, .int 0, .long 0, .int 0, .ref mnow, .ref mread, .ref mkept, .ref msnaps, .ref maside, .ref mname, .ref mreadName, .ref mkeptName, .ref misKept, .ref monces, .int 1, .ref morder, .ref mordered, .int 0, .int 0, .int 0, .int (-1), .int (-1), .ref mtext, .int 0, .int 0, .ref mline, .ref mwritten, .int 0, .int 0, .ref mnode, .int 0, .int 0, .int 0, .int 0])), (mnow, eI G 339 nw0)] (fun (r9 : Int32) (u9 : va_W) => r9 = (nI j9) ∧ u9 = []) := by
  refine Ci.of (by decide) (Nat.le_of_ble_eq_true rfl) ?_
  intro p e s m below meth c ls A B hw hl
  have C : CallFix p m c cX11_passHours 4 s _ gw "LanternStateModel" := B.1
  have hl : lv_has ls 4 [(0, .ref qm), (1, .int (nI j9))] := hl
  refine lv_iload_n C.1 C.2.1 dX11_passHours_0 rfl (lv_at hl 1 rfl) ?_
  refine lv_sipush (v := 400) C.1 C.2.1 dX11_passHours_1 (by decide) ?_
  refine lv_aload_n C.1 C.2.1 dX11_passHours_4 rfl (lv_at hl 0 rfl) ?_
  refine x_get C hw iwX11 10 rfl 0 rfl 14 (by decide) kw1211 rfl dX11_passHours_5 ?_
  refine lv_bipush (v := 64) C.1 C.2.1 dX11_passHours_8 (by decide) ?_
  refine x_iald (v := 0) C hw 1 rfl (x_in rfl) nw0_64 dX11_passHours_10 ?_
  refine lv_isub C.1 C.2.1 dX11_passHours_11 ?_
  refine x_topi (z := 400) (by decide) ?_
  refine x_calliS (As := [.int (nI j9), .int 400]) (rest := []) (wr := [(qm, .inr (10, [.int 0, .ref mtape, .int 0, .int 0, .int 0, .int 0, .int 0, .int 0, .int 0, .int 0, .int 0, .int 0, .long 0, .int 0, .ref mnow, .ref mread, .ref mkept, .ref msnaps, .ref maside, .ref mname, .ref mreadName, .ref mkeptName, .ref misKept, .ref monces, .int 1, .ref morder, .ref mordered, .int 0, .int 0, .int 0, .int (-1), .int (-1), .ref mtext, .int 0, .int 0, .ref mline, .ref mwritten, .int 0, .int 0, .ref mnode, .int 0, .int 0, .int 0, .int 0])), (mnow, eI G 339 nw0)]) C hw (c_X11_least j9 hj) mwX11_least kw1605 [] [0, 1] rfl rfl rfl rfl (by decide) rfl hl.1 rfl (Nat.le_of_ble_eq_true rfl) ⟨(Nat.le_of_ble_eq_true rfl), (Nat.le_of_ble_eq_true rfl)⟩ ⟨(Nat.le_of_ble_eq_true rfl), (Nat.le_of_ble_eq_true rfl)⟩ dX11_passHours_12 (fun r1 u9 H locs hp9 hw => ?_)
  obtain ⟨rfl, rfl⟩ := hp9
  have hw : Wd G s A [(qm, .inr (10, [.int 0, .ref mtape, .int 0, .int 0, .int 0, .int 0, .int 0, .int 0, .int 0, .int 0, .int 0, .int 0, .long 0, .int 0, .ref mnow, .ref mread, .ref mkept, .ref msnaps, .ref maside, .ref mname, .ref mreadName, .ref mkeptName, .ref misKept, .ref monces, .int 1, .ref morder, .ref mordered, .int 0, .int 0, .int 0, .int (-1), .int (-1), .ref mtext, .int 0, .int 0, .ref mline, .ref mwritten, .int 0, .int 0, .ref mnode, .int 0, .int 0, .int 0, .int 0])), (mnow, eI G 339 nw0)] H _ := hw
  refine lv_istore_n (lv' := [(2, .int (nI j9)), (0, .ref qm), (1, .int (nI j9))]) C.1 C.2.1 dX11_passHours_15 rfl hl (by decide) rfl (fun ls hl => ?_)
  refine lv_iconst (v := 0) C.1 C.2.1 dX11_passHours_16 (by decide) ?_
  refine lv_istore_n (lv' := [(3, .int 0), (2, .int (nI j9)), (0, .ref qm), (1, .int (nI j9))]) C.1 C.2.1 dX11_passHours_17 rfl hl (by decide) rfl (fun ls hl => ?_)
  have loop18 : ∀ (n9 : Nat) (k9 : Nat) (f18 : Nat → Int32), j9 - k9 < n9 → k9 ≤ j9 → ∀ (H : Heap) (locs : List Loc) (ls : Array Slot), Wd G s A [(qm, .inr (10, [.int 0, .ref mtape, .int 0, .int 0, .int 0, .int 0, .int 0, .int 0, .int 0, .int 0, .int 0, .int 0, .long 0, .int 0, .ref mnow, .ref mread, .ref mkept, .ref msnaps, .ref maside, .ref mname, .ref mreadName, .ref mkeptName, .ref misKept, .ref monces, .int 1, .ref morder, .ref mordered, .int 0, .int 0, .int 0, .int (-1), .int (-1), .ref mtext, .int 0, .int 0, .ref mline, .ref mwritten, .int 0, .int 0, .ref mnode, .int 0, .int 0, .int 0, .int 0])), (mnow, eI G 339 f18)] H locs → lv_has ls 4 [(3, .int (nI k9)), (2, .int (nI j9)), (0, .ref qm), (1, .int (nI j9))] → W p l e (rmD 1 0 0) s m [.ref qm, .int (nI j9)].toArray below meth c H locs 0 0 (MQ below (va_Qi (fun (r9 : Int32) (u9 : va_W) => r9 = (nI j9) ∧ u9 = []) (mB G A) A) [.ref qm, .int (nI j9)].toArray s 0 0 A) (F0 m 18 ls []) := by
    intro n9
    induction n9 with
    | zero => intro k9 f18 h9; exact absurd h9 (Nat.not_lt_zero _)
    | succ n9 ih =>
      intro k9 f18 h9 hi18 H locs ls hw hl
      refine lv_iload_n C.1 C.2.1 dX11_passHours_18 rfl (lv_at hl 0 rfl) ?_
      refine lv_iload_n C.1 C.2.1 dX11_passHours_19 rfl (lv_at hl 1 rfl) ?_
      refine lv_icmp_ge (tgt := 33) C.1 C.2.1 dX11_passHours_20 (by decide) (fun c_20 => ?_) (fun c_20 => ?_)
      · skip
        refine lv_iload_n C.1 C.2.1 dX11_passHours_33 rfl (lv_at hl 1 rfl) ?_
        have hw := hw.sub (w' := []) [] rfl rfl
        exact x_reti B hw ⟨rfl, rfl⟩ (Nat.le_of_ble_eq_true rfl) (Nat.le_of_ble_eq_true rfl) dX11_passHours_34
      · skip
        have hk20 : k9 < j9 := x_ltN hi18 c_20 rfl
        refine lv_aload_n C.1 C.2.1 dX11_passHours_23 rfl (lv_at hl 2 rfl) ?_
        refine x_callvV (As := []) (rest := []) (wr := []) C hw (c_X11_oneHour qm mtape mnow mread mkept msnaps maside mname mreadName mkeptName misKept monces morder mordered mtext mline mwritten mnode f18) mwX11_oneHour kw1608 [0, 1] [] rfl rfl rfl rfl (by decide) 0 rfl rfl rfl rfl hl.1 rfl (Nat.le_of_ble_eq_true rfl) ⟨(Nat.le_of_ble_eq_true rfl), (Nat.le_of_ble_eq_true rfl)⟩ ⟨(Nat.le_of_ble_eq_true rfl), (Nat.le_of_ble_eq_true rfl)⟩ dX11_passHours_24 (fun  u9 H locs hp9 hw => ?_)
        obtain ⟨gn_2, rfl⟩ := hp9
        have hw : Wd G s A [(qm, .inr (10, [.int 0, .ref mtape, .int 0, .int 0, .int 0, .int 0, .int 0, .int 0, .int 0, .int 0, .int 0, .int 0, .long 0, .int 0, .ref mnow, .ref mread, .ref mkept, .ref msnaps, .ref maside, .ref mname, .ref mreadName, .ref mkeptName, .ref misKept, .ref monces, .int 1, .ref morder, .ref mordered, .int 0, .int 0, .int 0, .int (-1), .int (-1), .ref mtext, .int 0, .int 0, .ref mline, .ref mwritten, .int 0, .int 0, .ref mnode, .int 0, .int 0, .int 0, .int 0])), (mnow, eI G 339 gn_2)] H _ := hw
        refine lv_iinc (v := (nI (k9 + 1))) (lv' := [(3, .int (nI (k9 + 1))), (2, .int (nI j9)), (0, .ref qm), (1, .int (nI j9))]) C.1 C.2.1 dX11_passHours_27 hl (k := 0) rfl (nI_1 k9) (by decide) rfl (fun ls hl => ?_)
        refine lv_goto (tgt := 18) C.1 C.2.1 dX11_passHours_30 (by decide) ?_
        exact ih (k9 + 1) gn_2 (by omega) hk20 _ _ _ hw (lv_sub hl [0, 1, 2, 3] rfl)
  exact loop18 _ 0 nw0 (Nat.lt_succ_self _) (Nat.zero_le _) _ _ _ hw (lv_sub hl [0, 1, 2, 3] rfl)
theorem dX11_hours_17 : decode cX11_hours 17 = .ok (.aload_n 0, 1) := by decide +kernel
theorem dX11_hours_18 : decode cX11_hours 18 = .ok (.getfield 98, 3) := by decide +kernel
theorem dX11_hours_21 : decode cX11_hours 21 = .ok (.bipush 64, 2) := by decide +kernel
theorem dX11_hours_23 : decode cX11_hours 23 = .ok (.iaload, 1) := by decide +kernel
theorem dX11_hours_24 : decode cX11_hours 24 = .ok (.sipush 400, 3) := by decide +kernel
theorem dX11_hours_27 : decode cX11_hours 27 = .ok (.if_icmp .ne 5, 3) := by decide +kernel
theorem dX11_hours_32 : decode cX11_hours 32 = .ok (.aload_n 0, 1) := by decide +kernel
theorem dX11_hours_33 : decode cX11_hours 33 = .ok (.invokevirtual 289, 3) := by decide +kernel
theorem mwX11_snap : MwV yX11_snap cX11_snap 2 none 0 := ⟨⟨kw1568, kw15, by decide +kernel⟩, kw1567, kS83⟩
theorem dX11_hours_36 : decode cX11_hours 36 = .ok (.aload_n 0, 1) := by decide +kernel
theorem dX11_hours_37 : decode cX11_hours 37 = .ok (.iload_n 1, 1) := by decide +kernel
theorem dX11_hours_38 : decode cX11_hours 38 = .ok (.invokevirtual 304, 3) := by decide +kernel
theorem mwX11_passHours : MwV yX11_passHours cX11_passHours 4 (some .int) 1 := ⟨⟨kw1604, kw15, by decide +kernel⟩, kw1603, kS87⟩
theorem dX11_hours_41 : decode cX11_hours 41 = .ok (.ireturn, 1) := by decide +kernel
set_option maxHeartbeats 4000000 in
set_option maxRecDepth 100000 in
theorem c_X11_hours__G {l : Launch} {G : Gc} (qm : Nat) (mtape : Nat) (mnow : Nat) (mread : Nat) (mkept : Nat) (msnaps : Nat) (maside : Nat) (mname : Nat) (mreadName : Nat) (mkeptName : Nat) (misKept : Nat) (monces : Nat) (morder : Nat) (mordered : Nat) (mtext : Nat) (mline : Nat) (mwritten : Nat) (mnode : Nat) (j9 : Nat) (h1 : 1 ≤ j9) (hj : j9 ≤ 24) : Ci l yX11_hours cX11_hours 2 (some .int) 2 0 0 G [.ref qm, .int (nI j9)] [(qm, .inr (10, [.int 0, .ref mtape, .int 0, .int 0, .int 0, .int 0, .int 0, .int 0, .int 0, .int 0, .int 0, .int 0, .long 0, .int 0, .ref mnow, .ref mread, .ref mkept, .ref msnaps, .ref maside, .ref mname, .ref mreadName, .ref mkeptName, .ref misKept, .ref monces, .int 0, .ref morder, .ref mordered, .int 0, .int 0, .int 0, .int (-1), .int (-1), .ref mtext, .int 0, .int 0, .ref mline, .ref mwritten, .int 0, .int 0, .ref mnode, .int 0, .int 0, .int 0, .int 0])), (mnow, eI G 339 nw0), (msnaps, eI G 264 (fun _ => 0))] (fun (r9 : Int32) (u9 : va_W) => r9 = (nI j9) ∧ u9 = []) := by
  refine Ci.of (by decide) (Nat.le_of_ble_eq_true rfl) ?_
  intro p e s m below meth c ls A B hw hl
  have C : CallFix p m c cX11_hours 2 s _ gw "LanternStateModel" := B.1
  have hl : lv_has ls 2 [(0, .ref qm), (1, .int (nI j9))] := hl
  refine lv_aload_n C.1 C.2.1 dX11_hours_0 rfl (lv_at hl 0 rfl) ?_
  refine lv_iconst (v := 0) C.1 C.2.1 dX11_hours_1 (by decide) ?_
  refine x_put (w' := [(qm, .inr (10, [.int 0, .ref mtape, .int 0, .int 0, .int 0, .int 0, .int 0, .int 0, .int 0, .int 0, .int 0, .int 0, .long 0, .int 0, .ref mnow, .ref mread, .ref mkept, .ref msnaps, .ref maside, .ref mname, .ref mreadName, .ref mkeptName, .ref misKept, .ref monces, .int 0, .ref morder, .ref mordered, .int 0, .int 0, .int 0, .int (-1), .int (-1), .ref mtext, .int 0, .int 0, .ref mline, .ref mwritten, .int 0, .int 0, .ref mnode, .int 0, .int 0, .int 0, .int 0])), (mnow, eI G 339 nw0), (msnaps, eI G 264 (fun _ => 0))]) C hw iwX11 tyX11_ok nmX11 10 rfl 0 rfl 0 (by decide) kw1197 rfl rfl rfl (Nat.le_of_ble_eq_true rfl) rfl dX11_hours_2 (fun H locs hw => ?_)
  refine lv_iload_n C.1 C.2.1 dX11_hours_5 rfl (lv_at hl 1 rfl) ?_
  refine lv_iconst (v := 1) C.1 C.2.1 dX11_hours_6 (by decide) ?_
  refine lv_bipush (v := 24) C.1 C.2.1 dX11_hours_7 (by decide) ?_
  refine x_calliS (As := [.int (nI j9), .int 1, .int 24]) (rest := []) (wr := [(qm, .inr (10, [.int 0, .ref mtape, .int 0, .int 0, .int 0, .int 0, .int 0, .int 0, .int 0, .int 0, .int 0, .int 0, .long 0, .int 0, .ref mnow, .ref mread, .ref mkept, .ref msnaps, .ref maside, .ref mname, .ref mreadName, .ref mkeptName, .ref misKept, .ref monces, .int 0, .ref morder, .ref mordered, .int 0, .int 0, .int 0, .int (-1), .int (-1), .ref mtext, .int 0, .int 0, .ref mline, .ref mwritten, .int 0, .int 0, .ref mnode, .int 0, .int 0, .int 0, .int 0])), (mnow, eI G 339 nw0), (msnaps, eI G 264 (fun _ => 0))]) C hw (c_X11_isInT (nI j9) 1 24 (nI_nlt (a := j9) (b := 1) h1 (by omega)) (nI_nlt (a := 24) (b := j9) hj (by decide))) mwX11_isIn kw1400 [] [0, 1, 2] rfl rfl rfl rfl (by decide) rfl hl.1 rfl (Nat.le_of_ble_eq_true rfl) ⟨(Nat.le_of_ble_eq_true rfl), (Nat.le_of_ble_eq_true rfl)⟩ ⟨(Nat.le_of_ble_eq_true rfl), (Nat.le_of_ble_eq_true rfl)⟩ dX11_hours_9 (fun r1 u9 H locs hp9 hw => ?_)
  obtain ⟨rfl, rfl⟩ := hp9
  have hw : Wd G s A [(qm, .inr (10, [.int 0, .ref mtape, .int 0, .int 0, .int 0, .int 0, .int 0, .int 0, .int 0, .int 0, .int 0, .int 0, .long 0, .int 0, .ref mnow, .ref mread, .ref mkept, .ref msnaps, .ref maside, .ref mname, .ref mreadName, .ref mkeptName, .ref misKept, .ref monces, .int 0, .ref morder, .ref mordered, .int 0, .int 0, .int 0, .int (-1), .int (-1), .ref mtext, .int 0, .int 0, .ref mline, .ref mwritten, .int 0, .int 0, .ref mnode, .int 0, .int 0, .int 0, .int 0])), (mnow, eI G 339 nw0), (msnaps, eI G 264 (fun _ => 0))] H _ := hw
  refine lv_if_ne (tgt := 17) C.1 C.2.1 dX11_hours_12 (by decide) (fun _ => ?_) (fun h9 => absurd h9 (by decide))
  refine lv_aload_n C.1 C.2.1 dX11_hours_17 rfl (lv_at hl 0 rfl) ?_
  refine x_get C hw iwX11 10 rfl 0 rfl 14 (by decide) kw1211 rfl dX11_hours_18 ?_
  refine lv_bipush (v := 64) C.1 C.2.1 dX11_hours_21 (by decide) ?_
  refine x_iald (v := 0) C hw 1 rfl (x_in rfl) nw0_64 dX11_hours_23 ?_
  refine lv_sipush (v := 400) C.1 C.2.1 dX11_hours_24 (by decide) ?_
  refine lv_icmp_ne (tgt := 32) C.1 C.2.1 dX11_hours_27 (by decide) (fun _ => ?_) (fun h9 => absurd h9 (by decide))
  refine lv_aload_n C.1 C.2.1 dX11_hours_32 rfl (lv_at hl 0 rfl) ?_
  refine x_callvV (As := []) (rest := []) (wr := []) C hw (c_X11_snap qm mtape 0 mnow mread mkept msnaps maside mname mreadName mkeptName misKept monces morder mordered mtext mline mwritten mnode nw0 (fun _ => 0)) mwX11_snap kw1565 [0, 1, 2] [] rfl rfl rfl rfl (by decide) 0 rfl rfl rfl rfl hl.1 rfl (Nat.le_of_ble_eq_true rfl) ⟨(Nat.le_of_ble_eq_true rfl), (Nat.le_of_ble_eq_true rfl)⟩ ⟨(Nat.le_of_ble_eq_true rfl), (Nat.le_of_ble_eq_true rfl)⟩ dX11_hours_33 (fun  u9 H locs hp9 hw => ?_)
  obtain ⟨gs_2, rfl⟩ := hp9
  have hw : Wd G s A [(qm, .inr (10, [.int 0, .ref mtape, .int 0, .int 0, .int 0, .int 0, .int 0, .int 0, .int 0, .int 0, .int 0, .int 0, .long 0, .int 0, .ref mnow, .ref mread, .ref mkept, .ref msnaps, .ref maside, .ref mname, .ref mreadName, .ref mkeptName, .ref misKept, .ref monces, .int 1, .ref morder, .ref mordered, .int 0, .int 0, .int 0, .int (-1), .int (-1), .ref mtext, .int 0, .int 0, .ref mline, .ref mwritten, .int 0, .int 0, .ref mnode, .int 0, .int 0, .int 0, .int 0])), (mnow, eI G 339 nw0), (msnaps, eI G 264 gs_2)] H _ := hw
  refine lv_aload_n C.1 C.2.1 dX11_hours_36 rfl (lv_at hl 0 rfl) ?_
  refine lv_iload_n C.1 C.2.1 dX11_hours_37 rfl (lv_at hl 1 rfl) ?_
  refine x_calliV (As := [.int (nI j9)]) (rest := []) (wr := [(msnaps, eI G 264 gs_2)]) C hw (c_X11_passHours qm mtape mnow mread mkept msnaps maside mname mreadName mkeptName misKept monces morder mordered mtext mline mwritten mnode j9 hj) mwX11_passHours kw1601 [0, 1] [2] rfl rfl rfl rfl (by decide) 0 rfl rfl rfl rfl hl.1 rfl (Nat.le_of_ble_eq_true rfl) ⟨(Nat.le_of_ble_eq_true rfl), (Nat.le_of_ble_eq_true rfl)⟩ ⟨(Nat.le_of_ble_eq_true rfl), (Nat.le_of_ble_eq_true rfl)⟩ dX11_hours_38 (fun r3 u9 H locs hp9 hw => ?_)
  obtain ⟨rfl, rfl⟩ := hp9
  have hw : Wd G s A [(msnaps, eI G 264 gs_2)] H _ := hw
  have hw := hw.sub (w' := []) [] rfl rfl
  exact x_reti B hw ⟨rfl, rfl⟩ (Nat.le_of_ble_eq_true rfl) (Nat.le_of_ble_eq_true rfl) dX11_hours_41
theorem dX11_layAside_0 : decode cX11_layAside 0 = .ok (.iconst 0, 1) := by decide +kernel
theorem dX11_layAside_1 : decode cX11_layAside 1 = .ok (.istore_n 1, 1) := by decide +kernel
theorem dX11_layAside_2 : decode cX11_layAside 2 = .ok (.iload_n 1, 1) := by decide +kernel
theorem dX11_layAside_3 : decode cX11_layAside 3 = .ok (.bipush 33, 2) := by decide +kernel
theorem dX11_layAside_5 : decode cX11_layAside 5 = .ok (.if_icmp .ge 24, 3) := by decide +kernel
theorem dX11_layAside_29 : decode cX11_layAside 29 = .ok (.return_, 1) := by decide +kernel
theorem dX11_layAside_8 : decode cX11_layAside 8 = .ok (.aload_n 0, 1) := by decide +kernel
theorem dX11_layAside_9 : decode cX11_layAside 9 = .ok (.getfield 110, 3) := by decide +kernel
theorem dX11_layAside_12 : decode cX11_layAside 12 = .ok (.iload_n 1, 1) := by decide +kernel
theorem dX11_layAside_13 : decode cX11_layAside 13 = .ok (.aload_n 0, 1) := by decide +kernel
theorem dX11_layAside_14 : decode cX11_layAside 14 = .ok (.getfield 98, 3) := by decide +kernel
theorem dX11_layAside_17 : decode cX11_layAside 17 = .ok (.bipush 64, 2) := by decide +kernel
theorem dX11_layAside_19 : decode cX11_layAside 19 = .ok (.iload_n 1, 1) := by decide +kernel
theorem dX11_layAside_20 : decode cX11_layAside 20 = .ok (.iadd, 1) := by decide +kernel
theorem dX11_layAside_21 : decode cX11_layAside 21 = .ok (.iaload, 1) := by decide +kernel
theorem dX11_layAside_22 : decode cX11_layAside 22 = .ok (.iastore, 1) := by decide +kernel
theorem dX11_layAside_23 : decode cX11_layAside 23 = .ok (.iinc 1 1, 3) := by decide +kernel
theorem dX11_layAside_26 : decode cX11_layAside 26 = .ok (.goto (-24), 3) := by decide +kernel
set_option maxHeartbeats 4000000 in
set_option maxRecDepth 100000 in
theorem c_X11_layAside {l : Launch} {G : Gc} (qm : Nat) (mtape : Nat) (m9 : Int32) (mnow : Nat) (mread : Nat) (mkept : Nat) (msnaps : Nat) (maside : Nat) (mname : Nat) (mreadName : Nat) (mkeptName : Nat) (misKept : Nat) (monces : Nat) (morder : Nat) (mordered : Nat) (mtext : Nat) (mline : Nat) (mwritten : Nat) (mnode : Nat) (fn : Nat → Int32) (fa : Nat → Int32)  : Cv l yX11_layAside cX11_layAside 2 0 0 0 G [.ref qm] [(qm, .inr (10, [.int 0, .ref mtape, .int 0, .int 0, .int m9, .int 0, .int 0, .int 0, .int 0, .int 0, .int 0, .int 0, .long 0, .int 0, .ref mnow, .ref mread, .ref mkept, .ref msnaps, .ref maside, .ref mname, .ref mreadName, .ref mkeptName, .ref misKept, .ref monces, .int 0, .ref morder, .ref mordered, .int 0, .int 0, .int 0, .int (-1), .int (-1), .ref mtext, .int 0, .int 0, .ref mline, .ref mwritten, .int 0, .int 0, .ref mnode, .int 0, .int 0, .int 0, .int 0])), (mnow, eI G 339 fn), (maside, eI G 33 fa)] (fun (u9 : va_W) => ∃ (ga : Nat → Int32), u9 = [(qm, .inr (10, [.int 0, .ref mtape, .int 0, .int 0, .int m9, .int 0, .int 0, .int 0, .int 0, .int 0, .int 0, .int 0, .long 0, .int 0, .ref mnow, .ref mread, .ref mkept, .ref msnaps, .ref maside, .ref mname, .ref mreadName, .ref mkeptName, .ref misKept, .ref monces, .int 0, .ref morder, .ref mordered, .int 0, .int 0, .int 0, .int (-1), .int (-1), .ref mtext, .int 0, .int 0, .ref mline, .ref mwritten, .int 0, .int 0, .ref mnode, .int 0, .int 0, .int 0, .int 0])), (mnow, eI G 339 fn), (maside, eI G 33 ga)]) := by
  refine Cv.of (by decide) (Nat.le_of_ble_eq_true rfl) ?_
  intro p e s m below meth c ls A B hw hl
  have C : CallFix p m c cX11_layAside 2 s _ gw "LanternStateModel" := B.1
  have hl : lv_has ls 2 [(0, .ref qm)] := hl
  refine lv_iconst (v := 0) C.1 C.2.1 dX11_layAside_0 (by decide) ?_
  refine lv_istore_n (lv' := [(1, .int 0), (0, .ref qm)]) C.1 C.2.1 dX11_layAside_1 rfl hl (by decide) rfl (fun ls hl => ?_)
  have loop2 : ∀ (n9 : Nat) (k2 : Nat) (f2_0 : Nat → Int32), 33 - k2 < n9 → 0 ≤ k2 ∧ k2 ≤ 33 → ∀ (H : Heap) (locs : List Loc) (ls : Array Slot), Wd G s A [(qm, .inr (10, [.int 0, .ref mtape, .int 0, .int 0, .int m9, .int 0, .int 0, .int 0, .int 0, .int 0, .int 0, .int 0, .long 0, .int 0, .ref mnow, .ref mread, .ref mkept, .ref msnaps, .ref maside, .ref mname, .ref mreadName, .ref mkeptName, .ref misKept, .ref monces, .int 0, .ref morder, .ref mordered, .int 0, .int 0, .int 0, .int (-1), .int (-1), .ref mtext, .int 0, .int 0, .ref mline, .ref mwritten, .int 0, .int 0, .ref mnode, .int 0, .int 0, .int 0, .int 0])), (mnow, eI G 339 fn), (maside, eI G 33 f2_0)] H locs → lv_has ls 2 [(1, .int (nI k2)), (0, .ref qm)] → W p l e (rmD 0 0 0) s m [.ref qm].toArray below meth c H locs 0 0 (MQ below (va_Qv (fun (u9 : va_W) => ∃ (ga : Nat → Int32), u9 = [(qm, .inr (10, [.int 0, .ref mtape, .int 0, .int 0, .int m9, .int 0, .int 0, .int 0, .int 0, .int 0, .int 0, .int 0, .long 0, .int 0, .ref mnow, .ref mread, .ref mkept, .ref msnaps, .ref maside, .ref mname, .ref mreadName, .ref mkeptName, .ref misKept, .ref monces, .int 0, .ref morder, .ref mordered, .int 0, .int 0, .int 0, .int (-1), .int (-1), .ref mtext, .int 0, .int 0, .ref mline, .ref mwritten, .int 0, .int 0, .ref mnode, .int 0, .int 0, .int 0, .int 0])), (mnow, eI G 339 fn), (maside, eI G 33 ga)]) (mB G A) A) [.ref qm].toArray s 0 0 A) (F0 m 2 ls []) := by
    intro n9
    induction n9 with
    | zero => intro k2 f2_0 h9; exact absurd h9 (Nat.not_lt_zero _)
    | succ n9 ih =>
      intro k2 f2_0 h9 hi2 H locs ls hw hl
      refine lv_iload_n C.1 C.2.1 dX11_layAside_2 rfl (lv_at hl 0 rfl) ?_
      refine lv_bipush (v := 33) C.1 C.2.1 dX11_layAside_3 (by decide) ?_
      refine lv_icmp_ge (tgt := 29) C.1 C.2.1 dX11_layAside_5 (by decide) (fun c_5 => ?_) (fun c_5 => ?_)
      · skip
        exact x_retv B hw ⟨f2_0, rfl⟩ (Nat.le_of_ble_eq_true rfl) (Nat.le_of_ble_eq_true rfl) dX11_layAside_29
      · skip
        have hk5 : k2 < 33 := x_ltN hi2.2 c_5 (by decide)
        refine lv_aload_n C.1 C.2.1 dX11_layAside_8 rfl (lv_at hl 1 rfl) ?_
        refine x_get C hw iwX11 10 rfl 0 rfl 18 (by decide) kw1215 rfl dX11_layAside_9 ?_
        refine lv_iload_n C.1 C.2.1 dX11_layAside_12 rfl (lv_at hl 0 rfl) ?_
        refine lv_aload_n C.1 C.2.1 dX11_layAside_13 rfl (lv_at hl 1 rfl) ?_
        refine x_get C hw iwX11 10 rfl 0 rfl 14 (by decide) kw1211 rfl dX11_layAside_14 ?_
        refine lv_bipush (v := 64) C.1 C.2.1 dX11_layAside_17 (by decide) ?_
        refine lv_iload_n C.1 C.2.1 dX11_layAside_19 rfl (lv_at hl 0 rfl) ?_
        refine lv_iadd C.1 C.2.1 dX11_layAside_20 ?_
        refine x_topi (z := (nI (64 + k2))) (nI_add 64 k2) ?_
        refine x_iald (v := (fn (nI (64 + k2)).toNatClampNeg)) C hw 1 rfl (vp_in_nI (by omega) (by decide)) rfl dX11_layAside_21 ?_
        refine x_iast (f' := (upd f2_0 ((nI k2).toNatClampNeg) (fn (nI (64 + k2)).toNatClampNeg))) (w' := [(qm, .inr (10, [.int 0, .ref mtape, .int 0, .int 0, .int m9, .int 0, .int 0, .int 0, .int 0, .int 0, .int 0, .int 0, .long 0, .int 0, .ref mnow, .ref mread, .ref mkept, .ref msnaps, .ref maside, .ref mname, .ref mreadName, .ref mkeptName, .ref misKept, .ref monces, .int 0, .ref morder, .ref mordered, .int 0, .int 0, .int 0, .int (-1), .int (-1), .ref mtext, .int 0, .int 0, .ref mline, .ref mwritten, .int 0, .int 0, .ref mnode, .int 0, .int 0, .int 0, .int 0])), (mnow, eI G 339 fn), (maside, eI G 33 (upd f2_0 ((nI k2).toNatClampNeg) (fn (nI (64 + k2)).toNatClampNeg)))]) C hw 2 rfl (vp_in_nI (by omega) (by decide)) rfl rfl dX11_layAside_22 (fun H locs hw => ?_)
        refine lv_iinc (v := (nI (k2 + 1))) (lv' := [(1, .int (nI (k2 + 1))), (0, .ref qm)]) C.1 C.2.1 dX11_layAside_23 hl (k := 0) rfl (nI_1 k2) (by decide) rfl (fun ls hl => ?_)
        refine lv_goto (tgt := 2) C.1 C.2.1 dX11_layAside_26 (by decide) ?_
        exact ih (k2 + 1) (upd f2_0 ((nI k2).toNatClampNeg) (fn (nI (64 + k2)).toNatClampNeg)) (by omega) (by omega) _ _ _ hw (lv_sub hl [0, 1] rfl)
  exact loop2 _ 0 fa (Nat.lt_succ_self _) (by decide) _ _ _ hw (lv_sub hl [0, 1] rfl)
theorem dX11_stay_0 : decode cX11_stay 0 = .ok (.iconst 0, 1) := by decide +kernel
theorem dX11_stay_1 : decode cX11_stay 1 = .ok (.istore_n 2, 1) := by decide +kernel
theorem dX11_stay_2 : decode cX11_stay 2 = .ok (.iload_n 2, 1) := by decide +kernel
theorem dX11_stay_3 : decode cX11_stay 3 = .ok (.bipush 33, 2) := by decide +kernel
theorem dX11_stay_5 : decode cX11_stay 5 = .ok (.if_icmp .ge 41, 3) := by decide +kernel
theorem dX11_stay_46 : decode cX11_stay 46 = .ok (.iload_n 1, 1) := by decide +kernel
theorem dX11_stay_47 : decode cX11_stay 47 = .ok (.ifCond .ne 4, 3) := by decide +kernel
theorem dX11_stay_50 : decode cX11_stay 50 = .ok (.return_, 1) := by decide +kernel
theorem dX11_stay_8 : decode cX11_stay 8 = .ok (.aload_n 0, 1) := by decide +kernel
theorem dX11_stay_9 : decode cX11_stay 9 = .ok (.getfield 98, 3) := by decide +kernel
theorem dX11_stay_12 : decode cX11_stay 12 = .ok (.bipush 64, 2) := by decide +kernel
theorem dX11_stay_14 : decode cX11_stay 14 = .ok (.iload_n 2, 1) := by decide +kernel
theorem dX11_stay_15 : decode cX11_stay 15 = .ok (.iadd, 1) := by decide +kernel
theorem dX11_stay_16 : decode cX11_stay 16 = .ok (.iaload, 1) := by decide +kernel
theorem dX11_stay_17 : decode cX11_stay 17 = .ok (.istore_n 3, 1) := by decide +kernel
theorem dX11_stay_18 : decode cX11_stay 18 = .ok (.aload_n 0, 1) := by decide +kernel
theorem dX11_stay_19 : decode cX11_stay 19 = .ok (.getfield 98, 3) := by decide +kernel
theorem dX11_stay_22 : decode cX11_stay 22 = .ok (.bipush 64, 2) := by decide +kernel
theorem dX11_stay_24 : decode cX11_stay 24 = .ok (.iload_n 2, 1) := by decide +kernel
theorem dX11_stay_25 : decode cX11_stay 25 = .ok (.iadd, 1) := by decide +kernel
theorem dX11_stay_26 : decode cX11_stay 26 = .ok (.aload_n 0, 1) := by decide +kernel
theorem dX11_stay_27 : decode cX11_stay 27 = .ok (.getfield 110, 3) := by decide +kernel
theorem dX11_stay_30 : decode cX11_stay 30 = .ok (.iload_n 2, 1) := by decide +kernel
theorem dX11_stay_31 : decode cX11_stay 31 = .ok (.iaload, 1) := by decide +kernel
theorem dX11_stay_32 : decode cX11_stay 32 = .ok (.iastore, 1) := by decide +kernel
theorem dX11_stay_33 : decode cX11_stay 33 = .ok (.aload_n 0, 1) := by decide +kernel
theorem dX11_stay_34 : decode cX11_stay 34 = .ok (.getfield 110, 3) := by decide +kernel
theorem dX11_stay_37 : decode cX11_stay 37 = .ok (.iload_n 2, 1) := by decide +kernel
theorem dX11_stay_38 : decode cX11_stay 38 = .ok (.iload_n 3, 1) := by decide +kernel
theorem dX11_stay_39 : decode cX11_stay 39 = .ok (.iastore, 1) := by decide +kernel
theorem dX11_stay_40 : decode cX11_stay 40 = .ok (.iinc 2 1, 3) := by decide +kernel
theorem dX11_stay_43 : decode cX11_stay 43 = .ok (.goto (-41), 3) := by decide +kernel
set_option maxHeartbeats 4000000 in
set_option maxRecDepth 100000 in
theorem c_X11_stay {l : Launch} {G : Gc} (qm : Nat) (mtape : Nat) (m9 : Int32) (mnow : Nat) (mread : Nat) (mkept : Nat) (msnaps : Nat) (maside : Nat) (mname : Nat) (mreadName : Nat) (mkeptName : Nat) (misKept : Nat) (monces : Nat) (morder : Nat) (mordered : Nat) (mtext : Nat) (mline : Nat) (mwritten : Nat) (mnode : Nat) (fn : Nat → Int32) (fa : Nat → Int32)  : Cv l yX11_stay cX11_stay 4 0 0 0 G [.ref qm, .int 0] [(qm, .inr (10, [.int 0, .ref mtape, .int 0, .int 0, .int m9, .int 0, .int 0, .int 0, .int 0, .int 0, .int 0, .int 0, .long 0, .int 0, .ref mnow, .ref mread, .ref mkept, .ref msnaps, .ref maside, .ref mname, .ref mreadName, .ref mkeptName, .ref misKept, .ref monces, .int 0, .ref morder, .ref mordered, .int 0, .int 0, .int 0, .int (-1), .int (-1), .ref mtext, .int 0, .int 0, .ref mline, .ref mwritten, .int 0, .int 1, .ref mnode, .int 0, .int 0, .int 0, .int 0])), (mnow, eI G 339 fn), (maside, eI G 33 fa)] (fun (u9 : va_W) => u9 = []) := by
  refine Cv.of (by decide) (Nat.le_of_ble_eq_true rfl) ?_
  intro p e s m below meth c ls A B hw hl
  have C : CallFix p m c cX11_stay 4 s _ gw "LanternStateModel" := B.1
  have hl : lv_has ls 4 [(0, .ref qm), (1, .int 0)] := hl
  refine lv_iconst (v := 0) C.1 C.2.1 dX11_stay_0 (by decide) ?_
  refine lv_istore_n (lv' := [(2, .int 0), (0, .ref qm), (1, .int 0)]) C.1 C.2.1 dX11_stay_1 rfl hl (by decide) rfl (fun ls hl => ?_)
  have loop2 : ∀ (n9 : Nat) (k2 : Nat) (f2_0 : Nat → Int32) (f2_1 : Nat → Int32), 33 - k2 < n9 → 0 ≤ k2 ∧ k2 ≤ 33 → ∀ (H : Heap) (locs : List Loc) (ls : Array Slot), Wd G s A [(qm, .inr (10, [.int 0, .ref mtape, .int 0, .int 0, .int m9, .int 0, .int 0, .int 0, .int 0, .int 0, .int 0, .int 0, .long 0, .int 0, .ref mnow, .ref mread, .ref mkept, .ref msnaps, .ref maside, .ref mname, .ref mreadName, .ref mkeptName, .ref misKept, .ref monces, .int 0, .ref morder, .ref mordered, .int 0, .int 0, .int 0, .int (-1), .int (-1), .ref mtext, .int 0, .int 0, .ref mline, .ref mwritten, .int 0, .int 1, .ref mnode, .int 0, .int 0, .int 0, .int 0])), (mnow, eI G 339 f2_0), (maside, eI G 33 f2_1)] H locs → lv_has ls 4 [(2, .int (nI k2)), (0, .ref qm), (1, .int 0)] → W p l e (rmD 0 0 0) s m [.ref qm, .int 0].toArray below meth c H locs 0 0 (MQ below (va_Qv (fun (u9 : va_W) => u9 = []) (mB G A) A) [.ref qm, .int 0].toArray s 0 0 A) (F0 m 2 ls []) := by
    intro n9
    induction n9 with
    | zero => intro k2 f2_0 f2_1 h9; exact absurd h9 (Nat.not_lt_zero _)
    | succ n9 ih =>
      intro k2 f2_0 f2_1 h9 hi2 H locs ls hw hl
      refine lv_iload_n C.1 C.2.1 dX11_stay_2 rfl (lv_at hl 0 rfl) ?_
      refine lv_bipush (v := 33) C.1 C.2.1 dX11_stay_3 (by decide) ?_
      refine lv_icmp_ge (tgt := 46) C.1 C.2.1 dX11_stay_5 (by decide) (fun c_5 => ?_) (fun c_5 => ?_)
      · skip
        refine lv_iload_n C.1 C.2.1 dX11_stay_46 rfl (lv_at hl 2 rfl) ?_
        refine lv_if_ne (tgt := 51) C.1 C.2.1 dX11_stay_47 (by decide) (fun h9 => absurd (by decide) h9) (fun _ => ?_)
        have hw := hw.sub (w' := []) [] rfl rfl
        exact x_retv B hw rfl (Nat.le_of_ble_eq_true rfl) (Nat.le_of_ble_eq_true rfl) dX11_stay_50
      · skip
        have hk5 : k2 < 33 := x_ltN hi2.2 c_5 (by decide)
        refine lv_aload_n C.1 C.2.1 dX11_stay_8 rfl (lv_at hl 1 rfl) ?_
        refine x_get C hw iwX11 10 rfl 0 rfl 14 (by decide) kw1211 rfl dX11_stay_9 ?_
        refine lv_bipush (v := 64) C.1 C.2.1 dX11_stay_12 (by decide) ?_
        refine lv_iload_n C.1 C.2.1 dX11_stay_14 rfl (lv_at hl 0 rfl) ?_
        refine lv_iadd C.1 C.2.1 dX11_stay_15 ?_
        refine x_topi (z := (nI (64 + k2))) (nI_add 64 k2) ?_
        refine x_iald (v := (f2_0 (nI (64 + k2)).toNatClampNeg)) C hw 1 rfl (vp_in_nI (by omega) (by decide)) rfl dX11_stay_16 ?_
        refine lv_istore_n (lv' := [(3, .int (f2_0 (nI (64 + k2)).toNatClampNeg)), (2, .int (nI k2)), (0, .ref qm), (1, .int 0)]) C.1 C.2.1 dX11_stay_17 rfl hl (by decide) rfl (fun ls hl => ?_)
        refine lv_aload_n C.1 C.2.1 dX11_stay_18 rfl (lv_at hl 2 rfl) ?_
        refine x_get C hw iwX11 10 rfl 0 rfl 14 (by decide) kw1211 rfl dX11_stay_19 ?_
        refine lv_bipush (v := 64) C.1 C.2.1 dX11_stay_22 (by decide) ?_
        refine lv_iload_n C.1 C.2.1 dX11_stay_24 rfl (lv_at hl 1 rfl) ?_
        refine lv_iadd C.1 C.2.1 dX11_stay_25 ?_
        refine x_topi (z := (nI (64 + k2))) (nI_add 64 k2) ?_
        refine lv_aload_n C.1 C.2.1 dX11_stay_26 rfl (lv_at hl 2 rfl) ?_
        refine x_get C hw iwX11 10 rfl 0 rfl 18 (by decide) kw1215 rfl dX11_stay_27 ?_
        refine lv_iload_n C.1 C.2.1 dX11_stay_30 rfl (lv_at hl 1 rfl) ?_
        refine x_iald (v := (f2_1 (nI k2).toNatClampNeg)) C hw 2 rfl (vp_in_nI (by omega) (by decide)) rfl dX11_stay_31 ?_
        refine x_iast (f' := (upd f2_0 ((nI (64 + k2)).toNatClampNeg) (f2_1 (nI k2).toNatClampNeg))) (w' := [(qm, .inr (10, [.int 0, .ref mtape, .int 0, .int 0, .int m9, .int 0, .int 0, .int 0, .int 0, .int 0, .int 0, .int 0, .long 0, .int 0, .ref mnow, .ref mread, .ref mkept, .ref msnaps, .ref maside, .ref mname, .ref mreadName, .ref mkeptName, .ref misKept, .ref monces, .int 0, .ref morder, .ref mordered, .int 0, .int 0, .int 0, .int (-1), .int (-1), .ref mtext, .int 0, .int 0, .ref mline, .ref mwritten, .int 0, .int 1, .ref mnode, .int 0, .int 0, .int 0, .int 0])), (mnow, eI G 339 (upd f2_0 ((nI (64 + k2)).toNatClampNeg) (f2_1 (nI k2).toNatClampNeg))), (maside, eI G 33 f2_1)]) C hw 1 rfl (vp_in_nI (by omega) (by decide)) rfl rfl dX11_stay_32 (fun H locs hw => ?_)
        refine lv_aload_n C.1 C.2.1 dX11_stay_33 rfl (lv_at hl 2 rfl) ?_
        refine x_get C hw iwX11 10 rfl 0 rfl 18 (by decide) kw1215 rfl dX11_stay_34 ?_
        refine lv_iload_n C.1 C.2.1 dX11_stay_37 rfl (lv_at hl 1 rfl) ?_
        refine lv_iload_n C.1 C.2.1 dX11_stay_38 rfl (lv_at hl 0 rfl) ?_
        refine x_iast (f' := (upd f2_1 ((nI k2).toNatClampNeg) (f2_0 (nI (64 + k2)).toNatClampNeg))) (w' := [(qm, .inr (10, [.int 0, .ref mtape, .int 0, .int 0, .int m9, .int 0, .int 0, .int 0, .int 0, .int 0, .int 0, .int 0, .long 0, .int 0, .ref mnow, .ref mread, .ref mkept, .ref msnaps, .ref maside, .ref mname, .ref mreadName, .ref mkeptName, .ref misKept, .ref monces, .int 0, .ref morder, .ref mordered, .int 0, .int 0, .int 0, .int (-1), .int (-1), .ref mtext, .int 0, .int 0, .ref mline, .ref mwritten, .int 0, .int 1, .ref mnode, .int 0, .int 0, .int 0, .int 0])), (mnow, eI G 339 (upd f2_0 ((nI (64 + k2)).toNatClampNeg) (f2_1 (nI k2).toNatClampNeg))), (maside, eI G 33 (upd f2_1 ((nI k2).toNatClampNeg) (f2_0 (nI (64 + k2)).toNatClampNeg)))]) C hw 2 rfl (vp_in_nI (by omega) (by decide)) rfl rfl dX11_stay_39 (fun H locs hw => ?_)
        refine lv_iinc (v := (nI (k2 + 1))) (lv' := [(2, .int (nI (k2 + 1))), (3, .int (f2_0 (nI (64 + k2)).toNatClampNeg)), (0, .ref qm), (1, .int 0)]) C.1 C.2.1 dX11_stay_40 hl (k := 1) rfl (nI_1 k2) (by decide) rfl (fun ls hl => ?_)
        refine lv_goto (tgt := 2) C.1 C.2.1 dX11_stay_43 (by decide) ?_
        exact ih (k2 + 1) (upd f2_0 ((nI (64 + k2)).toNatClampNeg) (f2_1 (nI k2).toNatClampNeg)) (upd f2_1 ((nI k2).toNatClampNeg) (f2_0 (nI (64 + k2)).toNatClampNeg)) (by omega) (by omega) _ _ _ hw (lv_sub hl [0, 2, 3] rfl)
  exact loop2 _ 0 fn fa (Nat.lt_succ_self _) (by decide) _ _ _ hw (lv_sub hl [0, 1, 2] rfl)
theorem dX11_book_18 : decode cX11_book 18 = .ok (.aload_n 0, 1) := by decide +kernel
theorem dX11_book_19 : decode cX11_book 19 = .ok (.sipush 400, 3) := by decide +kernel
theorem dX11_book_22 : decode cX11_book 22 = .ok (.invokevirtual 219, 3) := by decide +kernel
theorem dX11_book_25 : decode cX11_book 25 = .ok (.aload_n 0, 1) := by decide +kernel
theorem dX11_book_26 : decode cX11_book 26 = .ok (.iconst 0, 1) := by decide +kernel
theorem dX11_book_27 : decode cX11_book 27 = .ok (.putfield 371, 3) := by decide +kernel
theorem dX11_book_30 : decode cX11_book 30 = .ok (.aload_n 0, 1) := by decide +kernel
theorem dX11_book_31 : decode cX11_book 31 = .ok (.getfield 30, 3) := by decide +kernel
theorem dX11_book_34 : decode cX11_book 34 = .ok (.ifCond .eq 31, 3) := by decide +kernel
theorem dX11_book_65 : decode cX11_book 65 = .ok (.aload_n 0, 1) := by decide +kernel
theorem dX11_book_66 : decode cX11_book 66 = .ok (.invokevirtual 356, 3) := by decide +kernel
theorem mwX11_layAside : MwV yX11_layAside cX11_layAside 2 none 0 := ⟨⟨kw1711, kw15, by decide +kernel⟩, kw1710, kS97⟩
theorem dX11_book_69 : decode cX11_book 69 = .ok (.iconst 0, 1) := by decide +kernel
theorem dX11_book_70 : decode cX11_book 70 = .ok (.istore_n 2, 1) := by decide +kernel
theorem dX11_book_71 : decode cX11_book 71 = .ok (.iconst 0, 1) := by decide +kernel
theorem dX11_book_72 : decode cX11_book 72 = .ok (.istore_n 3, 1) := by decide +kernel
theorem dX11_book_73 : decode cX11_book 73 = .ok (.iload_n 2, 1) := by decide +kernel
theorem dX11_book_74 : decode cX11_book 74 = .ok (.aload_n 0, 1) := by decide +kernel
theorem dX11_book_75 : decode cX11_book 75 = .ok (.getfield 371, 3) := by decide +kernel
theorem dX11_book_78 : decode cX11_book 78 = .ok (.if_icmp .ge 25, 3) := by decide +kernel
theorem dX11_book_103 : decode cX11_book 103 = .ok (.aload_n 0, 1) := by decide +kernel
theorem dX11_book_104 : decode cX11_book 104 = .ok (.getfield 148, 3) := by decide +kernel
theorem dX11_book_107 : decode cX11_book 107 = .ok (.iconst 0, 1) := by decide +kernel
theorem dX11_book_108 : decode cX11_book 108 = .ok (.iload_n 3, 1) := by decide +kernel
theorem dX11_book_109 : decode cX11_book 109 = .ok (.iastore, 1) := by decide +kernel
theorem dX11_book_110 : decode cX11_book 110 = .ok (.aload_n 0, 1) := by decide +kernel
theorem dX11_book_111 : decode cX11_book 111 = .ok (.getfield 148, 3) := by decide +kernel
theorem dX11_book_114 : decode cX11_book 114 = .ok (.iconst 1, 1) := by decide +kernel
theorem dX11_book_115 : decode cX11_book 115 = .ok (.iload_n 2, 1) := by decide +kernel
theorem dX11_book_116 : decode cX11_book 116 = .ok (.iastore, 1) := by decide +kernel
theorem dX11_book_117 : decode cX11_book 117 = .ok (.aload_n 0, 1) := by decide +kernel
theorem dX11_book_118 : decode cX11_book 118 = .ok (.getfield 148, 3) := by decide +kernel
theorem dX11_book_121 : decode cX11_book 121 = .ok (.iconst 2, 1) := by decide +kernel
theorem dX11_book_122 : decode cX11_book 122 = .ok (.aload_n 0, 1) := by decide +kernel
theorem dX11_book_123 : decode cX11_book 123 = .ok (.getfield 98, 3) := by decide +kernel
theorem dX11_book_126 : decode cX11_book 126 = .ok (.bipush 64, 2) := by decide +kernel
theorem dX11_book_128 : decode cX11_book 128 = .ok (.iaload, 1) := by decide +kernel
theorem dX11_book_129 : decode cX11_book 129 = .ok (.iastore, 1) := by decide +kernel
theorem dX11_book_130 : decode cX11_book 130 = .ok (.aload_n 0, 1) := by decide +kernel
theorem dX11_book_131 : decode cX11_book 131 = .ok (.getfield 148, 3) := by decide +kernel
theorem dX11_book_134 : decode cX11_book 134 = .ok (.iconst 3, 1) := by decide +kernel
theorem dX11_book_135 : decode cX11_book 135 = .ok (.aload_n 0, 1) := by decide +kernel
theorem dX11_book_136 : decode cX11_book 136 = .ok (.getfield 98, 3) := by decide +kernel
theorem dX11_book_139 : decode cX11_book 139 = .ok (.bipush 67, 2) := by decide +kernel
theorem dX11_book_141 : decode cX11_book 141 = .ok (.iaload, 1) := by decide +kernel
theorem dX11_book_142 : decode cX11_book 142 = .ok (.iastore, 1) := by decide +kernel
theorem dX11_book_143 : decode cX11_book 143 = .ok (.aload_n 0, 1) := by decide +kernel
theorem dX11_book_144 : decode cX11_book 144 = .ok (.iconst 1, 1) := by decide +kernel
theorem dX11_book_145 : decode cX11_book 145 = .ok (.putfield 386, 3) := by decide +kernel
theorem dX11_book_148 : decode cX11_book 148 = .ok (.aload_n 0, 1) := by decide +kernel
theorem dX11_book_149 : decode cX11_book 149 = .ok (.iload_n 1, 1) := by decide +kernel
theorem dX11_book_150 : decode cX11_book 150 = .ok (.iconst 1, 1) := by decide +kernel
theorem dX11_book_151 : decode cX11_book 151 = .ok (.if_icmp .ne 11, 3) := by decide +kernel
theorem dX11_book_162 : decode cX11_book 162 = .ok (.iconst 0, 1) := by decide +kernel
theorem dX11_book_163 : decode cX11_book 163 = .ok (.invokevirtual 390, 3) := by decide +kernel
theorem mwX11_stay : MwV yX11_stay cX11_stay 4 none 1 := ⟨⟨kw1751, kw15, by decide +kernel⟩, kw1750, kS106⟩
theorem dX11_book_166 : decode cX11_book 166 = .ok (.iload_n 3, 1) := by decide +kernel
theorem dX11_book_167 : decode cX11_book 167 = .ok (.ifCond .ne 7, 3) := by decide +kernel
theorem dX11_book_170 : decode cX11_book 170 = .ok (.iconst (-1), 1) := by decide +kernel
theorem dX11_book_171 : decode cX11_book 171 = .ok (.goto 4, 3) := by decide +kernel
theorem dX11_book_175 : decode cX11_book 175 = .ok (.ireturn, 1) := by decide +kernel
set_option maxHeartbeats 4000000 in
set_option maxRecDepth 100000 in
theorem c_X11_book__0 {l : Launch} {G : Gc} (qm : Nat) (mtape : Nat) (mnow : Nat) (mread : Nat) (mkept : Nat) (msnaps : Nat) (maside : Nat) (mname : Nat) (mreadName : Nat) (mkeptName : Nat) (misKept : Nat) (monces : Nat) (morder : Nat) (mordered : Nat) (mtext : Nat) (mline : Nat) (mwritten : Nat) (mnode : Nat)  : Ci l yX11_book cX11_book 4 (some .int) 2 0 0 G [.ref qm, .int 0] [(qm, .inr (10, [.int 0, .ref mtape, .int 0, .int 0, .int 0, .int 0, .int 0, .int 0, .int 0, .int 0, .int 0, .int 0, .long 0, .int 0, .ref mnow, .ref mread, .ref mkept, .ref msnaps, .ref maside, .ref mname, .ref mreadName, .ref mkeptName, .ref misKept, .ref monces, .int 0, .ref morder, .ref mordered, .int 0, .int 0, .int 0, .int (-1), .int (-1), .ref mtext, .int 0, .int 0, .ref mline, .ref mwritten, .int 0, .int 0, .ref mnode, .int 0, .int 0, .int 0, .int 0])), (mnow, eI G 339 nw0), (maside, eI G 33 (fun _ => 0)), (mwritten, eI G 4 (fun _ => 0))] (fun (r9 : Int32) (u9 : va_W) => r9 = (-1) ∧ u9 = []) := by
  refine Ci.of (by decide) (Nat.le_of_ble_eq_true rfl) ?_
  intro p e s m below meth c ls A B hw hl
  have C : CallFix p m c cX11_book 4 s _ gw "LanternStateModel" := B.1
  have hl : lv_has ls 4 [(0, .ref qm), (1, .int 0)] := hl
  refine lv_aload_n C.1 C.2.1 dX11_book_0 rfl (lv_at hl 0 rfl) ?_
  refine lv_iconst (v := 0) C.1 C.2.1 dX11_book_1 (by decide) ?_
  refine x_put (w' := [(qm, .inr (10, [.int 0, .ref mtape, .int 0, .int 0, .int 0, .int 0, .int 0, .int 0, .int 0, .int 0, .int 0, .int 0, .long 0, .int 0, .ref mnow, .ref mread, .ref mkept, .ref msnaps, .ref maside, .ref mname, .ref mreadName, .ref mkeptName, .ref misKept, .ref monces, .int 0, .ref morder, .ref mordered, .int 0, .int 0, .int 0, .int (-1), .int (-1), .ref mtext, .int 0, .int 0, .ref mline, .ref mwritten, .int 0, .int 0, .ref mnode, .int 0, .int 0, .int 0, .int 0])), (mnow, eI G 339 nw0), (maside, eI G 33 (fun _ => 0)), (mwritten, eI G 4 (fun _ => 0))]) C hw iwX11 tyX11_ok nmX11 10 rfl 0 rfl 0 (by decide) kw1197 rfl rfl rfl (Nat.le_of_ble_eq_true rfl) rfl dX11_book_2 (fun H locs hw => ?_)
  refine lv_iload_n C.1 C.2.1 dX11_book_5 rfl (lv_at hl 1 rfl) ?_
  refine lv_iconst (v := 0) C.1 C.2.1 dX11_book_6 (by decide) ?_
  refine lv_iconst (v := 1) C.1 C.2.1 dX11_book_7 (by decide) ?_
  refine x_calliS (As := [.int 0, .int 0, .int 1]) (rest := []) (wr := [(qm, .inr (10, [.int 0, .ref mtape, .int 0, .int 0, .int 0, .int 0, .int 0, .int 0, .int 0, .int 0, .int 0, .int 0, .long 0, .int 0, .ref mnow, .ref mread, .ref mkept, .ref msnaps, .ref maside, .ref mname, .ref mreadName, .ref mkeptName, .ref misKept, .ref monces, .int 0, .ref morder, .ref mordered, .int 0, .int 0, .int 0, .int (-1), .int (-1), .ref mtext, .int 0, .int 0, .ref mline, .ref mwritten, .int 0, .int 0, .ref mnode, .int 0, .int 0, .int 0, .int 0])), (mnow, eI G 339 nw0), (maside, eI G 33 (fun _ => 0)), (mwritten, eI G 4 (fun _ => 0))]) C hw (c_X11_isInT 0 0 1 (by decide) (by decide)) mwX11_isIn kw1400 [] [0, 1, 2, 3] rfl rfl rfl rfl (by decide) rfl hl.1 rfl (Nat.le_of_ble_eq_true rfl) ⟨(Nat.le_of_ble_eq_true rfl), (Nat.le_of_ble_eq_true rfl)⟩ ⟨(Nat.le_of_ble_eq_true rfl), (Nat.le_of_ble_eq_true rfl)⟩ dX11_book_8 (fun r1 u9 H locs hp9 hw => ?_)
  obtain ⟨rfl, rfl⟩ := hp9
  have hw : Wd G s A [(qm, .inr (10, [.int 0, .ref mtape, .int 0, .int 0, .int 0, .int 0, .int 0, .int 0, .int 0, .int 0, .int 0, .int 0, .long 0, .int 0, .ref mnow, .ref mread, .ref mkept, .ref msnaps, .ref maside, .ref mname, .ref mreadName, .ref mkeptName, .ref misKept, .ref monces, .int 0, .ref morder, .ref mordered, .int 0, .int 0, .int 0, .int (-1), .int (-1), .ref mtext, .int 0, .int 0, .ref mline, .ref mwritten, .int 0, .int 0, .ref mnode, .int 0, .int 0, .int 0, .int 0])), (mnow, eI G 339 nw0), (maside, eI G 33 (fun _ => 0)), (mwritten, eI G 4 (fun _ => 0))] H _ := hw
  refine lv_if_ne (tgt := 18) C.1 C.2.1 dX11_book_11 (by decide) (fun _ => ?_) (fun h9 => absurd h9 (by decide))
  refine lv_aload_n C.1 C.2.1 dX11_book_18 rfl (lv_at hl 0 rfl) ?_
  refine lv_sipush (v := 400) C.1 C.2.1 dX11_book_19 (by decide) ?_
  refine x_callvV (As := [.int 400]) (rest := []) (wr := [(mnow, eI G 339 nw0), (maside, eI G 33 (fun _ => 0)), (mwritten, eI G 4 (fun _ => 0))]) C hw (c_X11_begin qm 400 mtape mnow mread mkept msnaps maside mname mreadName mkeptName misKept monces morder mordered mtext mline mwritten mnode (by decide)) mwX11_begin kw1335 [0] [1, 2, 3] rfl rfl rfl rfl (by decide) 0 rfl rfl rfl rfl hl.1 rfl (Nat.le_of_ble_eq_true rfl) ⟨(Nat.le_of_ble_eq_true rfl), (Nat.le_of_ble_eq_true rfl)⟩ ⟨(Nat.le_of_ble_eq_true rfl), (Nat.le_of_ble_eq_true rfl)⟩ dX11_book_22 (fun  u9 H locs hp9 hw => ?_)
  obtain rfl := hp9
  have hw : Wd G s A [(mnow, eI G 339 nw0), (maside, eI G 33 (fun _ => 0)), (mwritten, eI G 4 (fun _ => 0)), (qm, .inr (10, [.int 0, .ref mtape, .int 0, .int 0, .int 400, .int 0, .int 0, .int 0, .int 0, .int 0, .int 0, .int 0, .long 0, .int 0, .ref mnow, .ref mread, .ref mkept, .ref msnaps, .ref maside, .ref mname, .ref mreadName, .ref mkeptName, .ref misKept, .ref monces, .int 0, .ref morder, .ref mordered, .int 0, .int 0, .int 0, .int (-1), .int (-1), .ref mtext, .int 0, .int 0, .ref mline, .ref mwritten, .int 0, .int 0, .ref mnode, .int 0, .int 0, .int 0, .int 0]))] H _ := hw
  refine lv_aload_n C.1 C.2.1 dX11_book_25 rfl (lv_at hl 0 rfl) ?_
  refine lv_iconst (v := 0) C.1 C.2.1 dX11_book_26 (by decide) ?_
  refine x_put (w' := [(mnow, eI G 339 nw0), (maside, eI G 33 (fun _ => 0)), (mwritten, eI G 4 (fun _ => 0)), (qm, .inr (10, [.int 0, .ref mtape, .int 0, .int 0, .int 400, .int 0, .int 0, .int 0, .int 0, .int 0, .int 0, .int 0, .long 0, .int 0, .ref mnow, .ref mread, .ref mkept, .ref msnaps, .ref maside, .ref mname, .ref mreadName, .ref mkeptName, .ref misKept, .ref monces, .int 0, .ref morder, .ref mordered, .int 0, .int 0, .int 0, .int (-1), .int (-1), .ref mtext, .int 0, .int 0, .ref mline, .ref mwritten, .int 0, .int 0, .ref mnode, .int 0, .int 0, .int 0, .int 0]))]) C hw iwX11 tyX11_ok nmX11 10 rfl 3 rfl 37 (by decide) kw1234 rfl rfl rfl (Nat.le_of_ble_eq_true rfl) rfl dX11_book_27 (fun H locs hw => ?_)
  refine lv_aload_n C.1 C.2.1 dX11_book_30 rfl (lv_at hl 0 rfl) ?_
  refine x_get C hw iwX11 10 rfl 3 rfl 7 (by decide) kw1204 rfl dX11_book_31 ?_
  refine lv_if_eq (tgt := 65) C.1 C.2.1 dX11_book_34 (by decide) (fun _ => ?_) (fun h9 => absurd (by decide) h9)
  refine lv_aload_n C.1 C.2.1 dX11_book_65 rfl (lv_at hl 0 rfl) ?_
  refine x_callvV (As := []) (rest := []) (wr := [(mwritten, eI G 4 (fun _ => 0))]) C hw (c_X11_layAside qm mtape 400 mnow mread mkept msnaps maside mname mreadName mkeptName misKept monces morder mordered mtext mline mwritten mnode nw0 (fun _ => 0)) mwX11_layAside kw1708 [3, 0, 1] [2] rfl rfl rfl rfl (by decide) 0 rfl rfl rfl rfl hl.1 rfl (Nat.le_of_ble_eq_true rfl) ⟨(Nat.le_of_ble_eq_true rfl), (Nat.le_of_ble_eq_true rfl)⟩ ⟨(Nat.le_of_ble_eq_true rfl), (Nat.le_of_ble_eq_true rfl)⟩ dX11_book_66 (fun  u9 H locs hp9 hw => ?_)
  obtain ⟨ga_2, rfl⟩ := hp9
  have hw : Wd G s A [(mwritten, eI G 4 (fun _ => 0)), (qm, .inr (10, [.int 0, .ref mtape, .int 0, .int 0, .int 400, .int 0, .int 0, .int 0, .int 0, .int 0, .int 0, .int 0, .long 0, .int 0, .ref mnow, .ref mread, .ref mkept, .ref msnaps, .ref maside, .ref mname, .ref mreadName, .ref mkeptName, .ref misKept, .ref monces, .int 0, .ref morder, .ref mordered, .int 0, .int 0, .int 0, .int (-1), .int (-1), .ref mtext, .int 0, .int 0, .ref mline, .ref mwritten, .int 0, .int 0, .ref mnode, .int 0, .int 0, .int 0, .int 0])), (mnow, eI G 339 nw0), (maside, eI G 33 ga_2)] H _ := hw
  refine lv_iconst (v := 0) C.1 C.2.1 dX11_book_69 (by decide) ?_
  refine lv_istore_n (lv' := [(2, .int 0), (0, .ref qm), (1, .int 0)]) C.1 C.2.1 dX11_book_70 rfl hl (by decide) rfl (fun ls hl => ?_)
  refine lv_iconst (v := 0) C.1 C.2.1 dX11_book_71 (by decide) ?_
  refine lv_istore_n (lv' := [(3, .int 0), (2, .int 0), (0, .ref qm), (1, .int 0)]) C.1 C.2.1 dX11_book_72 rfl hl (by decide) rfl (fun ls hl => ?_)
  refine lv_iload_n C.1 C.2.1 dX11_book_73 rfl (lv_at hl 1 rfl) ?_
  refine lv_aload_n C.1 C.2.1 dX11_book_74 rfl (lv_at hl 2 rfl) ?_
  refine x_get C hw iwX11 10 rfl 1 rfl 37 (by decide) kw1234 rfl dX11_book_75 ?_
  refine lv_icmp_ge (tgt := 103) C.1 C.2.1 dX11_book_78 (by decide) (fun _ => ?_) (fun h9 => absurd (by decide) h9)
  refine lv_aload_n C.1 C.2.1 dX11_book_103 rfl (lv_at hl 2 rfl) ?_
  refine x_get C hw iwX11 10 rfl 1 rfl 36 (by decide) kw1233 rfl dX11_book_104 ?_
  refine lv_iconst (v := 0) C.1 C.2.1 dX11_book_107 (by decide) ?_
  refine lv_iload_n C.1 C.2.1 dX11_book_108 rfl (lv_at hl 0 rfl) ?_
  refine x_iast (f' := (fun _ => 0)) (w' := [(mwritten, eI G 4 (fun _ => 0)), (qm, .inr (10, [.int 0, .ref mtape, .int 0, .int 0, .int 400, .int 0, .int 0, .int 0, .int 0, .int 0, .int 0, .int 0, .long 0, .int 0, .ref mnow, .ref mread, .ref mkept, .ref msnaps, .ref maside, .ref mname, .ref mreadName, .ref mkeptName, .ref misKept, .ref monces, .int 0, .ref morder, .ref mordered, .int 0, .int 0, .int 0, .int (-1), .int (-1), .ref mtext, .int 0, .int 0, .ref mline, .ref mwritten, .int 0, .int 0, .ref mnode, .int 0, .int 0, .int 0, .int 0])), (mnow, eI G 339 nw0), (maside, eI G 33 ga_2)]) C hw 0 rfl (x_in rfl) (x_updC 0 _) rfl dX11_book_109 (fun H locs hw => ?_)
  refine lv_aload_n C.1 C.2.1 dX11_book_110 rfl (lv_at hl 2 rfl) ?_
  refine x_get C hw iwX11 10 rfl 1 rfl 36 (by decide) kw1233 rfl dX11_book_111 ?_
  refine lv_iconst (v := 1) C.1 C.2.1 dX11_book_114 (by decide) ?_
  refine lv_iload_n C.1 C.2.1 dX11_book_115 rfl (lv_at hl 1 rfl) ?_
  refine x_iast (f' := (fun _ => 0)) (w' := [(mwritten, eI G 4 (fun _ => 0)), (qm, .inr (10, [.int 0, .ref mtape, .int 0, .int 0, .int 400, .int 0, .int 0, .int 0, .int 0, .int 0, .int 0, .int 0, .long 0, .int 0, .ref mnow, .ref mread, .ref mkept, .ref msnaps, .ref maside, .ref mname, .ref mreadName, .ref mkeptName, .ref misKept, .ref monces, .int 0, .ref morder, .ref mordered, .int 0, .int 0, .int 0, .int (-1), .int (-1), .ref mtext, .int 0, .int 0, .ref mline, .ref mwritten, .int 0, .int 0, .ref mnode, .int 0, .int 0, .int 0, .int 0])), (mnow, eI G 339 nw0), (maside, eI G 33 ga_2)]) C hw 0 rfl (x_in rfl) (x_updC 0 _) rfl dX11_book_116 (fun H locs hw => ?_)
  refine lv_aload_n C.1 C.2.1 dX11_book_117 rfl (lv_at hl 2 rfl) ?_
  refine x_get C hw iwX11 10 rfl 1 rfl 36 (by decide) kw1233 rfl dX11_book_118 ?_
  refine lv_iconst (v := 2) C.1 C.2.1 dX11_book_121 (by decide) ?_
  refine lv_aload_n C.1 C.2.1 dX11_book_122 rfl (lv_at hl 2 rfl) ?_
  refine x_get C hw iwX11 10 rfl 1 rfl 14 (by decide) kw1211 rfl dX11_book_123 ?_
  refine lv_bipush (v := 64) C.1 C.2.1 dX11_book_126 (by decide) ?_
  refine x_iald (v := 0) C hw 2 rfl (x_in rfl) nw0_64 dX11_book_128 ?_
  refine x_iast (f' := (fun _ => 0)) (w' := [(mwritten, eI G 4 (fun _ => 0)), (qm, .inr (10, [.int 0, .ref mtape, .int 0, .int 0, .int 400, .int 0, .int 0, .int 0, .int 0, .int 0, .int 0, .int 0, .long 0, .int 0, .ref mnow, .ref mread, .ref mkept, .ref msnaps, .ref maside, .ref mname, .ref mreadName, .ref mkeptName, .ref misKept, .ref monces, .int 0, .ref morder, .ref mordered, .int 0, .int 0, .int 0, .int (-1), .int (-1), .ref mtext, .int 0, .int 0, .ref mline, .ref mwritten, .int 0, .int 0, .ref mnode, .int 0, .int 0, .int 0, .int 0])), (mnow, eI G 339 nw0), (maside, eI G 33 ga_2)]) C hw 0 rfl (x_in rfl) (x_updC 0 _) rfl dX11_book_129 (fun H locs hw => ?_)
  refine lv_aload_n C.1 C.2.1 dX11_book_130 rfl (lv_at hl 2 rfl) ?_
  refine x_get C hw iwX11 10 rfl 1 rfl 36 (by decide) kw1233 rfl dX11_book_131 ?_
  refine lv_iconst (v := 3) C.1 C.2.1 dX11_book_134 (by decide) ?_
  refine lv_aload_n C.1 C.2.1 dX11_book_135 rfl (lv_at hl 2 rfl) ?_
  refine x_get C hw iwX11 10 rfl 1 rfl 14 (by decide) kw1211 rfl dX11_book_136 ?_
  refine lv_bipush (v := 67) C.1 C.2.1 dX11_book_139 (by decide) ?_
  refine x_iald (v := 0) C hw 2 rfl (x_in rfl) nw0_67 dX11_book_141 ?_
  refine x_iast (f' := (fun _ => 0)) (w' := [(mwritten, eI G 4 (fun _ => 0)), (qm, .inr (10, [.int 0, .ref mtape, .int 0, .int 0, .int 400, .int 0, .int 0, .int 0, .int 0, .int 0, .int 0, .int 0, .long 0, .int 0, .ref mnow, .ref mread, .ref mkept, .ref msnaps, .ref maside, .ref mname, .ref mreadName, .ref mkeptName, .ref misKept, .ref monces, .int 0, .ref morder, .ref mordered, .int 0, .int 0, .int 0, .int (-1), .int (-1), .ref mtext, .int 0, .int 0, .ref mline, .ref mwritten, .int 0, .int 0, .ref mnode, .int 0, .int 0, .int 0, .int 0])), (mnow, eI G 339 nw0), (maside, eI G 33 ga_2)]) C hw 0 rfl (x_in rfl) (x_updC 0 _) rfl dX11_book_142 (fun H locs hw => ?_)
  refine lv_aload_n C.1 C.2.1 dX11_book_143 rfl (lv_at hl 2 rfl) ?_
  refine lv_iconst (v := 1) C.1 C.2.1 dX11_book_144 (by decide) ?_
  refine x_put (w' := [(mwritten, eI G 4 (fun _ => 0)), (qm, .inr (10, [.int 0, .ref mtape, .int 0, .int 0, .int 400, .int 0, .int 0, .int 0, .int 0, .int 0, .int 0, .int 0, .long 0, .int 0, .ref mnow, .ref mread, .ref mkept, .ref msnaps, .ref maside, .ref mname, .ref mreadName, .ref mkeptName, .ref misKept, .ref monces, .int 0, .ref morder, .ref mordered, .int 0, .int 0, .int 0, .int (-1), .int (-1), .ref mtext, .int 0, .int 0, .ref mline, .ref mwritten, .int 0, .int 1, .ref mnode, .int 0, .int 0, .int 0, .int 0])), (mnow, eI G 339 nw0), (maside, eI G 33 ga_2)]) C hw iwX11 tyX11_ok nmX11 10 rfl 1 rfl 38 (by decide) kw1235 rfl (by first | rfl | decide) rfl (Nat.le_of_ble_eq_true rfl) rfl dX11_book_145 (fun H locs hw => ?_)
  refine lv_aload_n C.1 C.2.1 dX11_book_148 rfl (lv_at hl 2 rfl) ?_
  refine lv_iload_n C.1 C.2.1 dX11_book_149 rfl (lv_at hl 3 rfl) ?_
  refine lv_iconst (v := 1) C.1 C.2.1 dX11_book_150 (by decide) ?_
  refine lv_icmp_ne (tgt := 162) C.1 C.2.1 dX11_book_151 (by decide) (fun _ => ?_) (fun h9 => absurd h9 (by decide))
  refine lv_iconst (v := 0) C.1 C.2.1 dX11_book_162 (by decide) ?_
  refine x_callvV (As := [.int 0]) (rest := []) (wr := [(mwritten, eI G 4 (fun _ => 0))]) C hw (c_X11_stay qm mtape 400 mnow mread mkept msnaps maside mname mreadName mkeptName misKept monces morder mordered mtext mline mwritten mnode nw0 ga_2) mwX11_stay kw1748 [1, 2, 3] [0] rfl rfl rfl rfl (by decide) 0 rfl rfl rfl rfl hl.1 rfl (Nat.le_of_ble_eq_true rfl) ⟨(Nat.le_of_ble_eq_true rfl), (Nat.le_of_ble_eq_true rfl)⟩ ⟨(Nat.le_of_ble_eq_true rfl), (Nat.le_of_ble_eq_true rfl)⟩ dX11_book_163 (fun  u9 H locs hp9 hw => ?_)
  obtain rfl := hp9
  have hw : Wd G s A [(mwritten, eI G 4 (fun _ => 0))] H _ := hw
  refine lv_iload_n C.1 C.2.1 dX11_book_166 rfl (lv_at hl 0 rfl) ?_
  refine lv_if_ne (tgt := 174) C.1 C.2.1 dX11_book_167 (by decide) (fun h9 => absurd (by decide) h9) (fun _ => ?_)
  refine lv_iconst (v := (-1)) C.1 C.2.1 dX11_book_170 (by decide) ?_
  refine lv_goto (tgt := 175) C.1 C.2.1 dX11_book_171 (by decide) ?_
  have hw := hw.sub (w' := []) [] rfl rfl
  exact x_reti B hw ⟨rfl, rfl⟩ (Nat.le_of_ble_eq_true rfl) (Nat.le_of_ble_eq_true rfl) dX11_book_175
theorem dX11_book_154 : decode cX11_book 154 = .ok (.iload_n 2, 1) := by decide +kernel
theorem dX11_book_155 : decode cX11_book 155 = .ok (.ifCond .le 7, 3) := by decide +kernel
set_option maxHeartbeats 4000000 in
set_option maxRecDepth 100000 in
theorem c_X11_book__1 {l : Launch} {G : Gc} (qm : Nat) (mtape : Nat) (mnow : Nat) (mread : Nat) (mkept : Nat) (msnaps : Nat) (maside : Nat) (mname : Nat) (mreadName : Nat) (mkeptName : Nat) (misKept : Nat) (monces : Nat) (morder : Nat) (mordered : Nat) (mtext : Nat) (mline : Nat) (mwritten : Nat) (mnode : Nat)  : Ci l yX11_book cX11_book 4 (some .int) 2 0 0 G [.ref qm, .int 1] [(qm, .inr (10, [.int 0, .ref mtape, .int 0, .int 0, .int 0, .int 0, .int 0, .int 0, .int 0, .int 0, .int 0, .int 0, .long 0, .int 0, .ref mnow, .ref mread, .ref mkept, .ref msnaps, .ref maside, .ref mname, .ref mreadName, .ref mkeptName, .ref misKept, .ref monces, .int 0, .ref morder, .ref mordered, .int 0, .int 0, .int 0, .int (-1), .int (-1), .ref mtext, .int 0, .int 0, .ref mline, .ref mwritten, .int 0, .int 0, .ref mnode, .int 0, .int 0, .int 0, .int 0])), (mnow, eI G 339 nw0), (maside, eI G 33 (fun _ => 0)), (mwritten, eI G 4 (fun _ => 0))] (fun (r9 : Int32) (u9 : va_W) => r9 = (-1) ∧ u9 = []) := by
  refine Ci.of (by decide) (Nat.le_of_ble_eq_true rfl) ?_
  intro p e s m below meth c ls A B hw hl
  have C : CallFix p m c cX11_book 4 s _ gw "LanternStateModel" := B.1
  have hl : lv_has ls 4 [(0, .ref qm), (1, .int 1)] := hl
  refine lv_aload_n C.1 C.2.1 dX11_book_0 rfl (lv_at hl 0 rfl) ?_
  refine lv_iconst (v := 0) C.1 C.2.1 dX11_book_1 (by decide) ?_
  refine x_put (w' := [(qm, .inr (10, [.int 0, .ref mtape, .int 0, .int 0, .int 0, .int 0, .int 0, .int 0, .int 0, .int 0, .int 0, .int 0, .long 0, .int 0, .ref mnow, .ref mread, .ref mkept, .ref msnaps, .ref maside, .ref mname, .ref mreadName, .ref mkeptName, .ref misKept, .ref monces, .int 0, .ref morder, .ref mordered, .int 0, .int 0, .int 0, .int (-1), .int (-1), .ref mtext, .int 0, .int 0, .ref mline, .ref mwritten, .int 0, .int 0, .ref mnode, .int 0, .int 0, .int 0, .int 0])), (mnow, eI G 339 nw0), (maside, eI G 33 (fun _ => 0)), (mwritten, eI G 4 (fun _ => 0))]) C hw iwX11 tyX11_ok nmX11 10 rfl 0 rfl 0 (by decide) kw1197 rfl rfl rfl (Nat.le_of_ble_eq_true rfl) rfl dX11_book_2 (fun H locs hw => ?_)
  refine lv_iload_n C.1 C.2.1 dX11_book_5 rfl (lv_at hl 1 rfl) ?_
  refine lv_iconst (v := 0) C.1 C.2.1 dX11_book_6 (by decide) ?_
  refine lv_iconst (v := 1) C.1 C.2.1 dX11_book_7 (by decide) ?_
  refine x_calliS (As := [.int 1, .int 0, .int 1]) (rest := []) (wr := [(qm, .inr (10, [.int 0, .ref mtape, .int 0, .int 0, .int 0, .int 0, .int 0, .int 0, .int 0, .int 0, .int 0, .int 0, .long 0, .int 0, .ref mnow, .ref mread, .ref mkept, .ref msnaps, .ref maside, .ref mname, .ref mreadName, .ref mkeptName, .ref misKept, .ref monces, .int 0, .ref morder, .ref mordered, .int 0, .int 0, .int 0, .int (-1), .int (-1), .ref mtext, .int 0, .int 0, .ref mline, .ref mwritten, .int 0, .int 0, .ref mnode, .int 0, .int 0, .int 0, .int 0])), (mnow, eI G 339 nw0), (maside, eI G 33 (fun _ => 0)), (mwritten, eI G 4 (fun _ => 0))]) C hw (c_X11_isInT 1 0 1 (by decide) (by decide)) mwX11_isIn kw1400 [] [0, 1, 2, 3] rfl rfl rfl rfl (by decide) rfl hl.1 rfl (Nat.le_of_ble_eq_true rfl) ⟨(Nat.le_of_ble_eq_true rfl), (Nat.le_of_ble_eq_true rfl)⟩ ⟨(Nat.le_of_ble_eq_true rfl), (Nat.le_of_ble_eq_true rfl)⟩ dX11_book_8 (fun r1 u9 H locs hp9 hw => ?_)
  obtain ⟨rfl, rfl⟩ := hp9
  have hw : Wd G s A [(qm, .inr (10, [.int 0, .ref mtape, .int 0, .int 0, .int 0, .int 0, .int 0, .int 0, .int 0, .int 0, .int 0, .int 0, .long 0, .int 0, .ref mnow, .ref mread, .ref mkept, .ref msnaps, .ref maside, .ref mname, .ref mreadName, .ref mkeptName, .ref misKept, .ref monces, .int 0, .ref morder, .ref mordered, .int 0, .int 0, .int 0, .int (-1), .int (-1), .ref mtext, .int 0, .int 0, .ref mline, .ref mwritten, .int 0, .int 0, .ref mnode, .int 0, .int 0, .int 0, .int 0])), (mnow, eI G 339 nw0), (maside, eI G 33 (fun _ => 0)), (mwritten, eI G 4 (fun _ => 0))] H _ := hw
  refine lv_if_ne (tgt := 18) C.1 C.2.1 dX11_book_11 (by decide) (fun _ => ?_) (fun h9 => absurd h9 (by decide))
  refine lv_aload_n C.1 C.2.1 dX11_book_18 rfl (lv_at hl 0 rfl) ?_
  refine lv_sipush (v := 400) C.1 C.2.1 dX11_book_19 (by decide) ?_
  refine x_callvV (As := [.int 400]) (rest := []) (wr := [(mnow, eI G 339 nw0), (maside, eI G 33 (fun _ => 0)), (mwritten, eI G 4 (fun _ => 0))]) C hw (c_X11_begin qm 400 mtape mnow mread mkept msnaps maside mname mreadName mkeptName misKept monces morder mordered mtext mline mwritten mnode (by decide)) mwX11_begin kw1335 [0] [1, 2, 3] rfl rfl rfl rfl (by decide) 0 rfl rfl rfl rfl hl.1 rfl (Nat.le_of_ble_eq_true rfl) ⟨(Nat.le_of_ble_eq_true rfl), (Nat.le_of_ble_eq_true rfl)⟩ ⟨(Nat.le_of_ble_eq_true rfl), (Nat.le_of_ble_eq_true rfl)⟩ dX11_book_22 (fun  u9 H locs hp9 hw => ?_)
  obtain rfl := hp9
  have hw : Wd G s A [(mnow, eI G 339 nw0), (maside, eI G 33 (fun _ => 0)), (mwritten, eI G 4 (fun _ => 0)), (qm, .inr (10, [.int 0, .ref mtape, .int 0, .int 0, .int 400, .int 0, .int 0, .int 0, .int 0, .int 0, .int 0, .int 0, .long 0, .int 0, .ref mnow, .ref mread, .ref mkept, .ref msnaps, .ref maside, .ref mname, .ref mreadName, .ref mkeptName, .ref misKept, .ref monces, .int 0, .ref morder, .ref mordered, .int 0, .int 0, .int 0, .int (-1), .int (-1), .ref mtext, .int 0, .int 0, .ref mline, .ref mwritten, .int 0, .int 0, .ref mnode, .int 0, .int 0, .int 0, .int 0]))] H _ := hw
  refine lv_aload_n C.1 C.2.1 dX11_book_25 rfl (lv_at hl 0 rfl) ?_
  refine lv_iconst (v := 0) C.1 C.2.1 dX11_book_26 (by decide) ?_
  refine x_put (w' := [(mnow, eI G 339 nw0), (maside, eI G 33 (fun _ => 0)), (mwritten, eI G 4 (fun _ => 0)), (qm, .inr (10, [.int 0, .ref mtape, .int 0, .int 0, .int 400, .int 0, .int 0, .int 0, .int 0, .int 0, .int 0, .int 0, .long 0, .int 0, .ref mnow, .ref mread, .ref mkept, .ref msnaps, .ref maside, .ref mname, .ref mreadName, .ref mkeptName, .ref misKept, .ref monces, .int 0, .ref morder, .ref mordered, .int 0, .int 0, .int 0, .int (-1), .int (-1), .ref mtext, .int 0, .int 0, .ref mline, .ref mwritten, .int 0, .int 0, .ref mnode, .int 0, .int 0, .int 0, .int 0]))]) C hw iwX11 tyX11_ok nmX11 10 rfl 3 rfl 37 (by decide) kw1234 rfl rfl rfl (Nat.le_of_ble_eq_true rfl) rfl dX11_book_27 (fun H locs hw => ?_)
  refine lv_aload_n C.1 C.2.1 dX11_book_30 rfl (lv_at hl 0 rfl) ?_
  refine x_get C hw iwX11 10 rfl 3 rfl 7 (by decide) kw1204 rfl dX11_book_31 ?_
  refine lv_if_eq (tgt := 65) C.1 C.2.1 dX11_book_34 (by decide) (fun _ => ?_) (fun h9 => absurd (by decide) h9)
  refine lv_aload_n C.1 C.2.1 dX11_book_65 rfl (lv_at hl 0 rfl) ?_
  refine x_callvV (As := []) (rest := []) (wr := [(mwritten, eI G 4 (fun _ => 0))]) C hw (c_X11_layAside qm mtape 400 mnow mread mkept msnaps maside mname mreadName mkeptName misKept monces morder mordered mtext mline mwritten mnode nw0 (fun _ => 0)) mwX11_layAside kw1708 [3, 0, 1] [2] rfl rfl rfl rfl (by decide) 0 rfl rfl rfl rfl hl.1 rfl (Nat.le_of_ble_eq_true rfl) ⟨(Nat.le_of_ble_eq_true rfl), (Nat.le_of_ble_eq_true rfl)⟩ ⟨(Nat.le_of_ble_eq_true rfl), (Nat.le_of_ble_eq_true rfl)⟩ dX11_book_66 (fun  u9 H locs hp9 hw => ?_)
  obtain ⟨ga_2, rfl⟩ := hp9
  have hw : Wd G s A [(mwritten, eI G 4 (fun _ => 0)), (qm, .inr (10, [.int 0, .ref mtape, .int 0, .int 0, .int 400, .int 0, .int 0, .int 0, .int 0, .int 0, .int 0, .int 0, .long 0, .int 0, .ref mnow, .ref mread, .ref mkept, .ref msnaps, .ref maside, .ref mname, .ref mreadName, .ref mkeptName, .ref misKept, .ref monces, .int 0, .ref morder, .ref mordered, .int 0, .int 0, .int 0, .int (-1), .int (-1), .ref mtext, .int 0, .int 0, .ref mline, .ref mwritten, .int 0, .int 0, .ref mnode, .int 0, .int 0, .int 0, .int 0])), (mnow, eI G 339 nw0), (maside, eI G 33 ga_2)] H _ := hw
  refine lv_iconst (v := 0) C.1 C.2.1 dX11_book_69 (by decide) ?_
  refine lv_istore_n (lv' := [(2, .int 0), (0, .ref qm), (1, .int 1)]) C.1 C.2.1 dX11_book_70 rfl hl (by decide) rfl (fun ls hl => ?_)
  refine lv_iconst (v := 0) C.1 C.2.1 dX11_book_71 (by decide) ?_
  refine lv_istore_n (lv' := [(3, .int 0), (2, .int 0), (0, .ref qm), (1, .int 1)]) C.1 C.2.1 dX11_book_72 rfl hl (by decide) rfl (fun ls hl => ?_)
  refine lv_iload_n C.1 C.2.1 dX11_book_73 rfl (lv_at hl 1 rfl) ?_
  refine lv_aload_n C.1 C.2.1 dX11_book_74 rfl (lv_at hl 2 rfl) ?_
  refine x_get C hw iwX11 10 rfl 1 rfl 37 (by decide) kw1234 rfl dX11_book_75 ?_
  refine lv_icmp_ge (tgt := 103) C.1 C.2.1 dX11_book_78 (by decide) (fun _ => ?_) (fun h9 => absurd (by decide) h9)
  refine lv_aload_n C.1 C.2.1 dX11_book_103 rfl (lv_at hl 2 rfl) ?_
  refine x_get C hw iwX11 10 rfl 1 rfl 36 (by decide) kw1233 rfl dX11_book_104 ?_
  refine lv_iconst (v := 0) C.1 C.2.1 dX11_book_107 (by decide) ?_
  refine lv_iload_n C.1 C.2.1 dX11_book_108 rfl (lv_at hl 0 rfl) ?_
  refine x_iast (f' := (fun _ => 0)) (w' := [(mwritten, eI G 4 (fun _ => 0)), (qm, .inr (10, [.int 0, .ref mtape, .int 0, .int 0, .int 400, .int 0, .int 0, .int 0, .int 0, .int 0, .int 0, .int 0, .long 0, .int 0, .ref mnow, .ref mread, .ref mkept, .ref msnaps, .ref maside, .ref mname, .ref mreadName, .ref mkeptName, .ref misKept, .ref monces, .int 0, .ref morder, .ref mordered, .int 0, .int 0, .int 0, .int (-1), .int (-1), .ref mtext, .int 0, .int 0, .ref mline, .ref mwritten, .int 0, .int 0, .ref mnode, .int 0, .int 0, .int 0, .int 0])), (mnow, eI G 339 nw0), (maside, eI G 33 ga_2)]) C hw 0 rfl (x_in rfl) (x_updC 0 _) rfl dX11_book_109 (fun H locs hw => ?_)
  refine lv_aload_n C.1 C.2.1 dX11_book_110 rfl (lv_at hl 2 rfl) ?_
  refine x_get C hw iwX11 10 rfl 1 rfl 36 (by decide) kw1233 rfl dX11_book_111 ?_
  refine lv_iconst (v := 1) C.1 C.2.1 dX11_book_114 (by decide) ?_
  refine lv_iload_n C.1 C.2.1 dX11_book_115 rfl (lv_at hl 1 rfl) ?_
  refine x_iast (f' := (fun _ => 0)) (w' := [(mwritten, eI G 4 (fun _ => 0)), (qm, .inr (10, [.int 0, .ref mtape, .int 0, .int 0, .int 400, .int 0, .int 0, .int 0, .int 0, .int 0, .int 0, .int 0, .long 0, .int 0, .ref mnow, .ref mread, .ref mkept, .ref msnaps, .ref maside, .ref mname, .ref mreadName, .ref mkeptName, .ref misKept, .ref monces, .int 0, .ref morder, .ref mordered, .int 0, .int 0, .int 0, .int (-1), .int (-1), .ref mtext, .int 0, .int 0, .ref mline, .ref mwritten, .int 0, .int 0, .ref mnode, .int 0, .int 0, .int 0, .int 0])), (mnow, eI G 339 nw0), (maside, eI G 33 ga_2)]) C hw 0 rfl (x_in rfl) (x_updC 0 _) rfl dX11_book_116 (fun H locs hw => ?_)
  refine lv_aload_n C.1 C.2.1 dX11_book_117 rfl (lv_at hl 2 rfl) ?_
  refine x_get C hw iwX11 10 rfl 1 rfl 36 (by decide) kw1233 rfl dX11_book_118 ?_
  refine lv_iconst (v := 2) C.1 C.2.1 dX11_book_121 (by decide) ?_
  refine lv_aload_n C.1 C.2.1 dX11_book_122 rfl (lv_at hl 2 rfl) ?_
  refine x_get C hw iwX11 10 rfl 1 rfl 14 (by decide) kw1211 rfl dX11_book_123 ?_
  refine lv_bipush (v := 64) C.1 C.2.1 dX11_book_126 (by decide) ?_
  refine x_iald (v := 0) C hw 2 rfl (x_in rfl) nw0_64 dX11_book_128 ?_
  refine x_iast (f' := (fun _ => 0)) (w' := [(mwritten, eI G 4 (fun _ => 0)), (qm, .inr (10, [.int 0, .ref mtape, .int 0, .int 0, .int 400, .int 0, .int 0, .int 0, .int 0, .int 0, .int 0, .int 0, .long 0, .int 0, .ref mnow, .ref mread, .ref mkept, .ref msnaps, .ref maside, .ref mname, .ref mreadName, .ref mkeptName, .ref misKept, .ref monces, .int 0, .ref morder, .ref mordered, .int 0, .int 0, .int 0, .int (-1), .int (-1), .ref mtext, .int 0, .int 0, .ref mline, .ref mwritten, .int 0, .int 0, .ref mnode, .int 0, .int 0, .int 0, .int 0])), (mnow, eI G 339 nw0), (maside, eI G 33 ga_2)]) C hw 0 rfl (x_in rfl) (x_updC 0 _) rfl dX11_book_129 (fun H locs hw => ?_)
  refine lv_aload_n C.1 C.2.1 dX11_book_130 rfl (lv_at hl 2 rfl) ?_
  refine x_get C hw iwX11 10 rfl 1 rfl 36 (by decide) kw1233 rfl dX11_book_131 ?_
  refine lv_iconst (v := 3) C.1 C.2.1 dX11_book_134 (by decide) ?_
  refine lv_aload_n C.1 C.2.1 dX11_book_135 rfl (lv_at hl 2 rfl) ?_
  refine x_get C hw iwX11 10 rfl 1 rfl 14 (by decide) kw1211 rfl dX11_book_136 ?_
  refine lv_bipush (v := 67) C.1 C.2.1 dX11_book_139 (by decide) ?_
  refine x_iald (v := 0) C hw 2 rfl (x_in rfl) nw0_67 dX11_book_141 ?_
  refine x_iast (f' := (fun _ => 0)) (w' := [(mwritten, eI G 4 (fun _ => 0)), (qm, .inr (10, [.int 0, .ref mtape, .int 0, .int 0, .int 400, .int 0, .int 0, .int 0, .int 0, .int 0, .int 0, .int 0, .long 0, .int 0, .ref mnow, .ref mread, .ref mkept, .ref msnaps, .ref maside, .ref mname, .ref mreadName, .ref mkeptName, .ref misKept, .ref monces, .int 0, .ref morder, .ref mordered, .int 0, .int 0, .int 0, .int (-1), .int (-1), .ref mtext, .int 0, .int 0, .ref mline, .ref mwritten, .int 0, .int 0, .ref mnode, .int 0, .int 0, .int 0, .int 0])), (mnow, eI G 339 nw0), (maside, eI G 33 ga_2)]) C hw 0 rfl (x_in rfl) (x_updC 0 _) rfl dX11_book_142 (fun H locs hw => ?_)
  refine lv_aload_n C.1 C.2.1 dX11_book_143 rfl (lv_at hl 2 rfl) ?_
  refine lv_iconst (v := 1) C.1 C.2.1 dX11_book_144 (by decide) ?_
  refine x_put (w' := [(mwritten, eI G 4 (fun _ => 0)), (qm, .inr (10, [.int 0, .ref mtape, .int 0, .int 0, .int 400, .int 0, .int 0, .int 0, .int 0, .int 0, .int 0, .int 0, .long 0, .int 0, .ref mnow, .ref mread, .ref mkept, .ref msnaps, .ref maside, .ref mname, .ref mreadName, .ref mkeptName, .ref misKept, .ref monces, .int 0, .ref morder, .ref mordered, .int 0, .int 0, .int 0, .int (-1), .int (-1), .ref mtext, .int 0, .int 0, .ref mline, .ref mwritten, .int 0, .int 1, .ref mnode, .int 0, .int 0, .int 0, .int 0])), (mnow, eI G 339 nw0), (maside, eI G 33 ga_2)]) C hw iwX11 tyX11_ok nmX11 10 rfl 1 rfl 38 (by decide) kw1235 rfl (by first | rfl | decide) rfl (Nat.le_of_ble_eq_true rfl) rfl dX11_book_145 (fun H locs hw => ?_)
  refine lv_aload_n C.1 C.2.1 dX11_book_148 rfl (lv_at hl 2 rfl) ?_
  refine lv_iload_n C.1 C.2.1 dX11_book_149 rfl (lv_at hl 3 rfl) ?_
  refine lv_iconst (v := 1) C.1 C.2.1 dX11_book_150 (by decide) ?_
  refine lv_icmp_ne (tgt := 162) C.1 C.2.1 dX11_book_151 (by decide) (fun h9 => absurd (by decide) h9) (fun _ => ?_)
  refine lv_iload_n C.1 C.2.1 dX11_book_154 rfl (lv_at hl 1 rfl) ?_
  refine lv_if_le (tgt := 162) C.1 C.2.1 dX11_book_155 (by decide) (fun _ => ?_) (fun h9 => absurd (by decide) h9)
  refine lv_iconst (v := 0) C.1 C.2.1 dX11_book_162 (by decide) ?_
  refine x_callvV (As := [.int 0]) (rest := []) (wr := [(mwritten, eI G 4 (fun _ => 0))]) C hw (c_X11_stay qm mtape 400 mnow mread mkept msnaps maside mname mreadName mkeptName misKept monces morder mordered mtext mline mwritten mnode nw0 ga_2) mwX11_stay kw1748 [1, 2, 3] [0] rfl rfl rfl rfl (by decide) 0 rfl rfl rfl rfl hl.1 rfl (Nat.le_of_ble_eq_true rfl) ⟨(Nat.le_of_ble_eq_true rfl), (Nat.le_of_ble_eq_true rfl)⟩ ⟨(Nat.le_of_ble_eq_true rfl), (Nat.le_of_ble_eq_true rfl)⟩ dX11_book_163 (fun  u9 H locs hp9 hw => ?_)
  obtain rfl := hp9
  have hw : Wd G s A [(mwritten, eI G 4 (fun _ => 0))] H _ := hw
  refine lv_iload_n C.1 C.2.1 dX11_book_166 rfl (lv_at hl 0 rfl) ?_
  refine lv_if_ne (tgt := 174) C.1 C.2.1 dX11_book_167 (by decide) (fun h9 => absurd (by decide) h9) (fun _ => ?_)
  refine lv_iconst (v := (-1)) C.1 C.2.1 dX11_book_170 (by decide) ?_
  refine lv_goto (tgt := 175) C.1 C.2.1 dX11_book_171 (by decide) ?_
  have hw := hw.sub (w' := []) [] rfl rfl
  exact x_reti B hw ⟨rfl, rfl⟩ (Nat.le_of_ble_eq_true rfl) (Nat.le_of_ble_eq_true rfl) dX11_book_175
theorem dX11_isSign_0 : decode cX11_isSign 0 = .ok (.aload_n 0, 1) := by decide +kernel
theorem dX11_isSign_1 : decode cX11_isSign 1 = .ok (.getfield 30, 3) := by decide +kernel
theorem dX11_isSign_4 : decode cX11_isSign 4 = .ok (.iconst 4, 1) := by decide +kernel
theorem dX11_isSign_5 : decode cX11_isSign 5 = .ok (.if_icmp .ne 15, 3) := by decide +kernel
theorem dX11_isSign_20 : decode cX11_isSign 20 = .ok (.iconst 0, 1) := by decide +kernel
theorem dX11_isSign_21 : decode cX11_isSign 21 = .ok (.ireturn, 1) := by decide +kernel
set_option maxHeartbeats 4000000 in
set_option maxRecDepth 100000 in
theorem c_X11_isSign {l : Launch} {G : Gc} (qm : Nat) (c9 : Int32) (mtape : Nat) (m9 : Int32) (mnow : Nat) (mread : Nat) (mkept : Nat) (msnaps : Nat) (maside : Nat) (mname : Nat) (mreadName : Nat) (mkeptName : Nat) (misKept : Nat) (monces : Nat) (morder : Nat) (mordered : Nat) (mtext : Nat) (mline : Nat) (mwritten : Nat) (mnode : Nat)  : Ci l yX11_isSign cX11_isSign 2 (some .boolean) 0 0 0 G [.ref qm, .int c9] [(qm, .inr (10, [.int 0, .ref mtape, .int 0, .int 0, .int m9, .int 0, .int 0, .int 0, .int 0, .int 0, .int 0, .int 0, .long 0, .int 0, .ref mnow, .ref mread, .ref mkept, .ref msnaps, .ref maside, .ref mname, .ref mreadName, .ref mkeptName, .ref misKept, .ref monces, .int 0, .ref morder, .ref mordered, .int 0, .int 0, .int 0, .int (-1), .int (-1), .ref mtext, .int 0, .int 0, .ref mline, .ref mwritten, .int 0, .int 0, .ref mnode, .int 0, .int 0, .int 0, .int 0]))] (fun (r9 : Int32) (u9 : va_W) => r9 = 0 ∧ u9 = [(qm, .inr (10, [.int 0, .ref mtape, .int 0, .int 0, .int m9, .int 0, .int 0, .int 0, .int 0, .int 0, .int 0, .int 0, .long 0, .int 0, .ref mnow, .ref mread, .ref mkept, .ref msnaps, .ref maside, .ref mname, .ref mreadName, .ref mkeptName, .ref misKept, .ref monces, .int 0, .ref morder, .ref mordered, .int 0, .int 0, .int 0, .int (-1), .int (-1), .ref mtext, .int 0, .int 0, .ref mline, .ref mwritten, .int 0, .int 0, .ref mnode, .int 0, .int 0, .int 0, .int 0]))]) := by
  refine Ci.of (by decide) (Nat.le_of_ble_eq_true rfl) ?_
  intro p e s m below meth c ls A B hw hl
  have C : CallFix p m c cX11_isSign 2 s _ gw "LanternStateModel" := B.1
  have hl : lv_has ls 2 [(0, .ref qm), (1, .int c9)] := hl
  refine lv_aload_n C.1 C.2.1 dX11_isSign_0 rfl (lv_at hl 0 rfl) ?_
  refine x_get C hw iwX11 10 rfl 0 rfl 7 (by decide) kw1204 rfl dX11_isSign_1 ?_
  refine lv_iconst (v := 4) C.1 C.2.1 dX11_isSign_4 (by decide) ?_
  refine lv_icmp_ne (tgt := 20) C.1 C.2.1 dX11_isSign_5 (by decide) (fun _ => ?_) (fun h9 => absurd h9 (by decide))
  refine lv_iconst (v := 0) C.1 C.2.1 dX11_isSign_20 (by decide) ?_
  exact x_retz B hw rfl ⟨rfl, rfl⟩ (Nat.le_of_ble_eq_true rfl) (Nat.le_of_ble_eq_true rfl) dX11_isSign_21
theorem dX11_isWord_0 : decode cX11_isWord 0 = .ok (.aload_n 0, 1) := by decide +kernel
theorem dX11_isWord_1 : decode cX11_isWord 1 = .ok (.getfield 30, 3) := by decide +kernel
theorem dX11_isWord_4 : decode cX11_isWord 4 = .ok (.iconst 2, 1) := by decide +kernel
theorem dX11_isWord_5 : decode cX11_isWord 5 = .ok (.if_icmp .ne 19, 3) := by decide +kernel
theorem dX11_isWord_24 : decode cX11_isWord 24 = .ok (.iconst 0, 1) := by decide +kernel
theorem dX11_isWord_25 : decode cX11_isWord 25 = .ok (.ireturn, 1) := by decide +kernel
set_option maxHeartbeats 4000000 in
set_option maxRecDepth 100000 in
theorem c_X11_isWord {l : Launch} {G : Gc} (qm : Nat) (c9 : Int32) (mtape : Nat) (m9 : Int32) (mnow : Nat) (mread : Nat) (mkept : Nat) (msnaps : Nat) (maside : Nat) (mname : Nat) (mreadName : Nat) (mkeptName : Nat) (misKept : Nat) (monces : Nat) (morder : Nat) (mordered : Nat) (mtext : Nat) (mline : Nat) (mwritten : Nat) (mnode : Nat)  : Ci l yX11_isWord cX11_isWord 2 (some .boolean) 0 0 0 G [.ref qm, .int c9] [(qm, .inr (10, [.int 0, .ref mtape, .int 0, .int 0, .int m9, .int 0, .int 0, .int 0, .int 0, .int 0, .int 0, .int 0, .long 0, .int 0, .ref mnow, .ref mread, .ref mkept, .ref msnaps, .ref maside, .ref mname, .ref mreadName, .ref mkeptName, .ref misKept, .ref monces, .int 0, .ref morder, .ref mordered, .int 0, .int 0, .int 0, .int (-1), .int (-1), .ref mtext, .int 0, .int 0, .ref mline, .ref mwritten, .int 0, .int 0, .ref mnode, .int 0, .int 0, .int 0, .int 0]))] (fun (r9 : Int32) (u9 : va_W) => r9 = 0 ∧ u9 = [(qm, .inr (10, [.int 0, .ref mtape, .int 0, .int 0, .int m9, .int 0, .int 0, .int 0, .int 0, .int 0, .int 0, .int 0, .long 0, .int 0, .ref mnow, .ref mread, .ref mkept, .ref msnaps, .ref maside, .ref mname, .ref mreadName, .ref mkeptName, .ref misKept, .ref monces, .int 0, .ref morder, .ref mordered, .int 0, .int 0, .int 0, .int (-1), .int (-1), .ref mtext, .int 0, .int 0, .ref mline, .ref mwritten, .int 0, .int 0, .ref mnode, .int 0, .int 0, .int 0, .int 0]))]) := by
  refine Ci.of (by decide) (Nat.le_of_ble_eq_true rfl) ?_
  intro p e s m below meth c ls A B hw hl
  have C : CallFix p m c cX11_isWord 2 s _ gw "LanternStateModel" := B.1
  have hl : lv_has ls 2 [(0, .ref qm), (1, .int c9)] := hl
  refine lv_aload_n C.1 C.2.1 dX11_isWord_0 rfl (lv_at hl 0 rfl) ?_
  refine x_get C hw iwX11 10 rfl 0 rfl 7 (by decide) kw1204 rfl dX11_isWord_1 ?_
  refine lv_iconst (v := 2) C.1 C.2.1 dX11_isWord_4 (by decide) ?_
  refine lv_icmp_ne (tgt := 24) C.1 C.2.1 dX11_isWord_5 (by decide) (fun _ => ?_) (fun h9 => absurd h9 (by decide))
  refine lv_iconst (v := 0) C.1 C.2.1 dX11_isWord_24 (by decide) ?_
  exact x_retz B hw rfl ⟨rfl, rfl⟩ (Nat.le_of_ble_eq_true rfl) (Nat.le_of_ble_eq_true rfl) dX11_isWord_25
theorem dX11_bad_0 : decode cX11_bad 0 = .ok (.aload_n 0, 1) := by decide +kernel
theorem dX11_bad_1 : decode cX11_bad 1 = .ok (.aload_n 0, 1) := by decide +kernel
theorem dX11_bad_2 : decode cX11_bad 2 = .ok (.getfield 30, 3) := by decide +kernel
theorem dX11_bad_5 : decode cX11_bad 5 = .ok (.iconst 1, 1) := by decide +kernel
theorem dX11_bad_6 : decode cX11_bad 6 = .ok (.if_icmp .ne 7, 3) := by decide +kernel
theorem dX11_bad_13 : decode cX11_bad 13 = .ok (.iload_n 1, 1) := by decide +kernel
theorem dX11_bad_14 : decode cX11_bad 14 = .ok (.putfield 66, 3) := by decide +kernel
theorem dX11_bad_17 : decode cX11_bad 17 = .ok (.aload_n 0, 1) := by decide +kernel
theorem dX11_bad_18 : decode cX11_bad 18 = .ok (.aload_n 0, 1) := by decide +kernel
theorem dX11_bad_19 : decode cX11_bad 19 = .ok (.getfield 24, 3) := by decide +kernel
theorem dX11_bad_22 : decode cX11_bad 22 = .ok (.putfield 69, 3) := by decide +kernel
theorem dX11_bad_25 : decode cX11_bad 25 = .ok (.iconst 0, 1) := by decide +kernel
theorem dX11_bad_26 : decode cX11_bad 26 = .ok (.ireturn, 1) := by decide +kernel
set_option maxHeartbeats 4000000 in
set_option maxRecDepth 100000 in
theorem c_X11_bad {l : Launch} {G : Gc} (qm : Nat) (c9 : Int32) (mtape : Nat) (m9 : Int32) (mnow : Nat) (mread : Nat) (mkept : Nat) (msnaps : Nat) (maside : Nat) (mname : Nat) (mreadName : Nat) (mkeptName : Nat) (misKept : Nat) (monces : Nat) (morder : Nat) (mordered : Nat) (mtext : Nat) (mline : Nat) (mwritten : Nat) (mnode : Nat)  : Ci l yX11_bad cX11_bad 2 (some .boolean) 0 0 0 G [.ref qm, .int c9] [(qm, .inr (10, [.int 0, .ref mtape, .int 0, .int 0, .int m9, .int 0, .int 0, .int 0, .int 0, .int 0, .int 0, .int 0, .long 0, .int 0, .ref mnow, .ref mread, .ref mkept, .ref msnaps, .ref maside, .ref mname, .ref mreadName, .ref mkeptName, .ref misKept, .ref monces, .int 0, .ref morder, .ref mordered, .int 0, .int 0, .int 0, .int (-1), .int (-1), .ref mtext, .int 0, .int 0, .ref mline, .ref mwritten, .int 0, .int 0, .ref mnode, .int 0, .int 0, .int 0, .int 0]))] (fun (r9 : Int32) (u9 : va_W) => r9 = 0 ∧ u9 = [(qm, .inr (10, [.int 0, .ref mtape, .int 0, .int 0, .int m9, .int 0, .int 0, .int 0, .int 0, .int 0, .int c9, .int 0, .long 0, .int 0, .ref mnow, .ref mread, .ref mkept, .ref msnaps, .ref maside, .ref mname, .ref mreadName, .ref mkeptName, .ref misKept, .ref monces, .int 0, .ref morder, .ref mordered, .int 0, .int 0, .int 0, .int (-1), .int (-1), .ref mtext, .int 0, .int 0, .ref mline, .ref mwritten, .int 0, .int 0, .ref mnode, .int 0, .int 0, .int 0, .int 0]))]) := by
  refine Ci.of (by decide) (Nat.le_of_ble_eq_true rfl) ?_
  intro p e s m below meth c ls A B hw hl
  have C : CallFix p m c cX11_bad 2 s _ gw "LanternStateModel" := B.1
  have hl : lv_has ls 2 [(0, .ref qm), (1, .int c9)] := hl
  refine lv_aload_n C.1 C.2.1 dX11_bad_0 rfl (lv_at hl 0 rfl) ?_
  refine lv_aload_n C.1 C.2.1 dX11_bad_1 rfl (lv_at hl 0 rfl) ?_
  refine x_get C hw iwX11 10 rfl 0 rfl 7 (by decide) kw1204 rfl dX11_bad_2 ?_
  refine lv_iconst (v := 1) C.1 C.2.1 dX11_bad_5 (by decide) ?_
  refine lv_icmp_ne (tgt := 13) C.1 C.2.1 dX11_bad_6 (by decide) (fun _ => ?_) (fun h9 => absurd h9 (by decide))
  refine lv_iload_n C.1 C.2.1 dX11_bad_13 rfl (lv_at hl 1 rfl) ?_
  refine x_put (w' := [(qm, .inr (10, [.int 0, .ref mtape, .int 0, .int 0, .int m9, .int 0, .int 0, .int 0, .int 0, .int 0, .int c9, .int 0, .long 0, .int 0, .ref mnow, .ref mread, .ref mkept, .ref msnaps, .ref maside, .ref mname, .ref mreadName, .ref mkeptName, .ref misKept, .ref monces, .int 0, .ref morder, .ref mordered, .int 0, .int 0, .int 0, .int (-1), .int (-1), .ref mtext, .int 0, .int 0, .ref mline, .ref mwritten, .int 0, .int 0, .ref mnode, .int 0, .int 0, .int 0, .int 0]))]) C hw iwX11 tyX11_ok nmX11 10 rfl 0 rfl 10 (by decide) kw1207 rfl rfl rfl (Nat.le_of_ble_eq_true rfl) rfl dX11_bad_14 (fun H locs hw => ?_)
  refine lv_aload_n C.1 C.2.1 dX11_bad_17 rfl (lv_at hl 0 rfl) ?_
  refine lv_aload_n C.1 C.2.1 dX11_bad_18 rfl (lv_at hl 0 rfl) ?_
  refine x_get C hw iwX11 10 rfl 0 rfl 6 (by decide) kw1203 rfl dX11_bad_19 ?_
  refine x_put (w' := [(qm, .inr (10, [.int 0, .ref mtape, .int 0, .int 0, .int m9, .int 0, .int 0, .int 0, .int 0, .int 0, .int c9, .int 0, .long 0, .int 0, .ref mnow, .ref mread, .ref mkept, .ref msnaps, .ref maside, .ref mname, .ref mreadName, .ref mkeptName, .ref misKept, .ref monces, .int 0, .ref morder, .ref mordered, .int 0, .int 0, .int 0, .int (-1), .int (-1), .ref mtext, .int 0, .int 0, .ref mline, .ref mwritten, .int 0, .int 0, .ref mnode, .int 0, .int 0, .int 0, .int 0]))]) C hw iwX11 tyX11_ok nmX11 10 rfl 0 rfl 11 (by decide) kw1208 rfl rfl rfl (Nat.le_of_ble_eq_true rfl) rfl dX11_bad_22 (fun H locs hw => ?_)
  refine lv_iconst (v := 0) C.1 C.2.1 dX11_bad_25 (by decide) ?_
  exact x_retz B hw rfl ⟨rfl, rfl⟩ (Nat.le_of_ble_eq_true rfl) (Nat.le_of_ble_eq_true rfl) dX11_bad_26
theorem dX11_readSaid_0 : decode cX11_readSaid 0 = .ok (.aload_n 0, 1) := by decide +kernel
theorem dX11_readSaid_1 : decode cX11_readSaid 1 = .ok (.bipush 40, 2) := by decide +kernel
theorem dX11_readSaid_3 : decode cX11_readSaid 3 = .ok (.invokevirtual 86, 3) := by decide +kernel
theorem mwX11_isSign : MwV yX11_isSign cX11_isSign 2 (some .boolean) 1 := ⟨⟨kw1456, kw15, by decide +kernel⟩, kw1455, kS68⟩
theorem dX11_readSaid_6 : decode cX11_readSaid 6 = .ok (.istore_n 1, 1) := by decide +kernel
theorem dX11_readSaid_7 : decode cX11_readSaid 7 = .ok (.bipush 18, 2) := by decide +kernel
theorem dX11_readSaid_9 : decode cX11_readSaid 9 = .ok (.istore_n 2, 1) := by decide +kernel
theorem dX11_readSaid_10 : decode cX11_readSaid 10 = .ok (.iload_n 2, 1) := by decide +kernel
theorem dX11_readSaid_11 : decode cX11_readSaid 11 = .ok (.bipush 26, 2) := by decide +kernel
theorem dX11_readSaid_13 : decode cX11_readSaid 13 = .ok (.if_icmp .gt 17, 3) := by decide +kernel
theorem dX11_readSaid_16 : decode cX11_readSaid 16 = .ok (.aload_n 0, 1) := by decide +kernel
theorem dX11_readSaid_17 : decode cX11_readSaid 17 = .ok (.iload_n 2, 1) := by decide +kernel
theorem dX11_readSaid_18 : decode cX11_readSaid 18 = .ok (.invokevirtual 169, 3) := by decide +kernel
theorem mwX11_isWord : MwV yX11_isWord cX11_isWord 2 (some .boolean) 1 := ⟨⟨kw1366, kw15, by decide +kernel⟩, kw1365, kS50⟩
theorem dX11_readSaid_21 : decode cX11_readSaid 21 = .ok (.ifCond .ne 9, 3) := by decide +kernel
theorem dX11_readSaid_24 : decode cX11_readSaid 24 = .ok (.iinc 2 1, 3) := by decide +kernel
theorem dX11_readSaid_27 : decode cX11_readSaid 27 = .ok (.goto (-17), 3) := by decide +kernel
theorem dX11_readSaid_30 : decode cX11_readSaid 30 = .ok (.iload_n 1, 1) := by decide +kernel
theorem dX11_readSaid_31 : decode cX11_readSaid 31 = .ok (.ifCond .ne 15, 3) := by decide +kernel
theorem dX11_readSaid_34 : decode cX11_readSaid 34 = .ok (.iload_n 2, 1) := by decide +kernel
theorem dX11_readSaid_35 : decode cX11_readSaid 35 = .ok (.bipush 26, 2) := by decide +kernel
theorem dX11_readSaid_37 : decode cX11_readSaid 37 = .ok (.if_icmp .le 9, 3) := by decide +kernel
theorem dX11_readSaid_40 : decode cX11_readSaid 40 = .ok (.aload_n 0, 1) := by decide +kernel
theorem dX11_readSaid_41 : decode cX11_readSaid 41 = .ok (.iconst 1, 1) := by decide +kernel
theorem dX11_readSaid_42 : decode cX11_readSaid 42 = .ok (.invokevirtual 72, 3) := by decide +kernel
theorem mwX11_bad : MwV yX11_bad cX11_bad 2 (some .boolean) 1 := ⟨⟨kw1384, kw15, by decide +kernel⟩, kw1383, kS53⟩
theorem dX11_readSaid_45 : decode cX11_readSaid 45 = .ok (.ireturn, 1) := by decide +kernel
set_option maxHeartbeats 4000000 in
set_option maxRecDepth 100000 in
theorem c_X11_readSaid {l : Launch} {G : Gc} (qm : Nat) (mtape : Nat) (m9 : Int32) (mnow : Nat) (mread : Nat) (mkept : Nat) (msnaps : Nat) (maside : Nat) (mname : Nat) (mreadName : Nat) (mkeptName : Nat) (misKept : Nat) (monces : Nat) (morder : Nat) (mordered : Nat) (mtext : Nat) (mline : Nat) (mwritten : Nat) (mnode : Nat)  : Ci l yX11_readSaid cX11_readSaid 4 (some .boolean) 1 0 0 G [.ref qm] [(qm, .inr (10, [.int 0, .ref mtape, .int 0, .int 0, .int m9, .int 0, .int 0, .int 0, .int 0, .int 0, .int 0, .int 0, .long 0, .int 0, .ref mnow, .ref mread, .ref mkept, .ref msnaps, .ref maside, .ref mname, .ref mreadName, .ref mkeptName, .ref misKept, .ref monces, .int 0, .ref morder, .ref mordered, .int 0, .int 0, .int 0, .int (-1), .int (-1), .ref mtext, .int 0, .int 0, .ref mline, .ref mwritten, .int 0, .int 0, .ref mnode, .int 0, .int 0, .int 0, .int 0]))] (fun (r9 : Int32) (u9 : va_W) => r9 = 0 ∧ u9 = [(qm, .inr (10, [.int 0, .ref mtape, .int 0, .int 0, .int m9, .int 0, .int 0, .int 0, .int 0, .int 0, .int 1, .int 0, .long 0, .int 0, .ref mnow, .ref mread, .ref mkept, .ref msnaps, .ref maside, .ref mname, .ref mreadName, .ref mkeptName, .ref misKept, .ref monces, .int 0, .ref morder, .ref mordered, .int 0, .int 0, .int 0, .int (-1), .int (-1), .ref mtext, .int 0, .int 0, .ref mline, .ref mwritten, .int 0, .int 0, .ref mnode, .int 0, .int 0, .int 0, .int 0]))]) := by
  refine Ci.of (by decide) (Nat.le_of_ble_eq_true rfl) ?_
  intro p e s m below meth c ls A B hw hl
  have C : CallFix p m c cX11_readSaid 4 s _ gw "LanternStateModel" := B.1
  have hl : lv_has ls 4 [(0, .ref qm)] := hl
  refine lv_aload_n C.1 C.2.1 dX11_readSaid_0 rfl (lv_at hl 0 rfl) ?_
  refine lv_bipush (v := 40) C.1 C.2.1 dX11_readSaid_1 (by decide) ?_
  refine x_calliV (As := [.int 40]) (rest := []) (wr := []) C hw (c_X11_isSign qm 40 mtape m9 mnow mread mkept msnaps maside mname mreadName mkeptName misKept monces morder mordered mtext mline mwritten mnode) mwX11_isSign kw1453 [0] [] rfl rfl rfl rfl (by decide) 0 rfl rfl rfl rfl hl.1 rfl (Nat.le_of_ble_eq_true rfl) ⟨(Nat.le_of_ble_eq_true rfl), (Nat.le_of_ble_eq_true rfl)⟩ ⟨(Nat.le_of_ble_eq_true rfl), (Nat.le_of_ble_eq_true rfl)⟩ dX11_readSaid_3 (fun r1 u9 H locs hp9 hw => ?_)
  obtain ⟨rfl, rfl⟩ := hp9
  have hw : Wd G s A [(qm, .inr (10, [.int 0, .ref mtape, .int 0, .int 0, .int m9, .int 0, .int 0, .int 0, .int 0, .int 0, .int 0, .int 0, .long 0, .int 0, .ref mnow, .ref mread, .ref mkept, .ref msnaps, .ref maside, .ref mname, .ref mreadName, .ref mkeptName, .ref misKept, .ref monces, .int 0, .ref morder, .ref mordered, .int 0, .int 0, .int 0, .int (-1), .int (-1), .ref mtext, .int 0, .int 0, .ref mline, .ref mwritten, .int 0, .int 0, .ref mnode, .int 0, .int 0, .int 0, .int 0]))] H _ := hw
  refine lv_istore_n (lv' := [(1, .int 0), (0, .ref qm)]) C.1 C.2.1 dX11_readSaid_6 rfl hl (by decide) rfl (fun ls hl => ?_)
  refine lv_bipush (v := 18) C.1 C.2.1 dX11_readSaid_7 (by decide) ?_
  refine lv_istore_n (lv' := [(2, .int 18), (1, .int 0), (0, .ref qm)]) C.1 C.2.1 dX11_readSaid_9 rfl hl (by decide) rfl (fun ls hl => ?_)
  refine lv_iload_n C.1 C.2.1 dX11_readSaid_10 rfl (lv_at hl 0 rfl) ?_
  refine lv_bipush (v := 26) C.1 C.2.1 dX11_readSaid_11 (by decide) ?_
  refine lv_icmp_gt (tgt := 30) C.1 C.2.1 dX11_readSaid_13 (by decide) (fun h9 => absurd h9 (by decide)) (fun _ => ?_)
  refine lv_aload_n C.1 C.2.1 dX11_readSaid_16 rfl (lv_at hl 2 rfl) ?_
  refine lv_iload_n C.1 C.2.1 dX11_readSaid_17 rfl (lv_at hl 0 rfl) ?_
  refine x_calliV (As := [.int 18]) (rest := []) (wr := []) C hw (c_X11_isWord qm 18 mtape m9 mnow mread mkept msnaps maside mname mreadName mkeptName misKept monces morder mordered mtext mline mwritten mnode) mwX11_isWord kw1363 [0] [] rfl rfl rfl rfl (by decide) 0 rfl rfl rfl rfl hl.1 rfl (Nat.le_of_ble_eq_true rfl) ⟨(Nat.le_of_ble_eq_true rfl), (Nat.le_of_ble_eq_true rfl)⟩ ⟨(Nat.le_of_ble_eq_true rfl), (Nat.le_of_ble_eq_true rfl)⟩ dX11_readSaid_18 (fun r2 u9 H locs hp9 hw => ?_)
  obtain ⟨rfl, rfl⟩ := hp9
  have hw : Wd G s A [(qm, .inr (10, [.int 0, .ref mtape, .int 0, .int 0, .int m9, .int 0, .int 0, .int 0, .int 0, .int 0, .int 0, .int 0, .long 0, .int 0, .ref mnow, .ref mread, .ref mkept, .ref msnaps, .ref maside, .ref mname, .ref mreadName, .ref mkeptName, .ref misKept, .ref monces, .int 0, .ref morder, .ref mordered, .int 0, .int 0, .int 0, .int (-1), .int (-1), .ref mtext, .int 0, .int 0, .ref mline, .ref mwritten, .int 0, .int 0, .ref mnode, .int 0, .int 0, .int 0, .int 0]))] H _ := hw
  refine lv_if_ne (tgt := 30) C.1 C.2.1 dX11_readSaid_21 (by decide) (fun h9 => absurd (by decide) h9) (fun _ => ?_)
  refine lv_iinc (v := 19) (lv' := [(2, .int 19), (1, .int 0), (0, .ref qm)]) C.1 C.2.1 dX11_readSaid_24 hl (k := 0) rfl (by decide) (by decide) rfl (fun ls hl => ?_)
  refine lv_goto (tgt := 10) C.1 C.2.1 dX11_readSaid_27 (by decide) ?_
  refine lv_iload_n C.1 C.2.1 dX11_readSaid_10 rfl (lv_at hl 0 rfl) ?_
  refine lv_bipush (v := 26) C.1 C.2.1 dX11_readSaid_11 (by decide) ?_
  refine lv_icmp_gt (tgt := 30) C.1 C.2.1 dX11_readSaid_13 (by decide) (fun h9 => absurd h9 (by decide)) (fun _ => ?_)
  refine lv_aload_n C.1 C.2.1 dX11_readSaid_16 rfl (lv_at hl 2 rfl) ?_
  refine lv_iload_n C.1 C.2.1 dX11_readSaid_17 rfl (lv_at hl 0 rfl) ?_
  refine x_calliV (As := [.int 19]) (rest := []) (wr := []) C hw (c_X11_isWord qm 19 mtape m9 mnow mread mkept msnaps maside mname mreadName mkeptName misKept monces morder mordered mtext mline mwritten mnode) mwX11_isWord kw1363 [0] [] rfl rfl rfl rfl (by decide) 0 rfl rfl rfl rfl hl.1 rfl (Nat.le_of_ble_eq_true rfl) ⟨(Nat.le_of_ble_eq_true rfl), (Nat.le_of_ble_eq_true rfl)⟩ ⟨(Nat.le_of_ble_eq_true rfl), (Nat.le_of_ble_eq_true rfl)⟩ dX11_readSaid_18 (fun r3 u9 H locs hp9 hw => ?_)
  obtain ⟨rfl, rfl⟩ := hp9
  have hw : Wd G s A [(qm, .inr (10, [.int 0, .ref mtape, .int 0, .int 0, .int m9, .int 0, .int 0, .int 0, .int 0, .int 0, .int 0, .int 0, .long 0, .int 0, .ref mnow, .ref mread, .ref mkept, .ref msnaps, .ref maside, .ref mname, .ref mreadName, .ref mkeptName, .ref misKept, .ref monces, .int 0, .ref morder, .ref mordered, .int 0, .int 0, .int 0, .int (-1), .int (-1), .ref mtext, .int 0, .int 0, .ref mline, .ref mwritten, .int 0, .int 0, .ref mnode, .int 0, .int 0, .int 0, .int 0]))] H _ := hw
  refine lv_if_ne (tgt := 30) C.1 C.2.1 dX11_readSaid_21 (by decide) (fun h9 => absurd (by decide) h9) (fun _ => ?_)
  refine lv_iinc (v := 20) (lv' := [(2, .int 20), (1, .int 0), (0, .ref qm)]) C.1 C.2.1 dX11_readSaid_24 hl (k := 0) rfl (by decide) (by decide) rfl (fun ls hl => ?_)
  refine lv_goto (tgt := 10) C.1 C.2.1 dX11_readSaid_27 (by decide) ?_
  refine lv_iload_n C.1 C.2.1 dX11_readSaid_10 rfl (lv_at hl 0 rfl) ?_
  refine lv_bipush (v := 26) C.1 C.2.1 dX11_readSaid_11 (by decide) ?_
  refine lv_icmp_gt (tgt := 30) C.1 C.2.1 dX11_readSaid_13 (by decide) (fun h9 => absurd h9 (by decide)) (fun _ => ?_)
  refine lv_aload_n C.1 C.2.1 dX11_readSaid_16 rfl (lv_at hl 2 rfl) ?_
  refine lv_iload_n C.1 C.2.1 dX11_readSaid_17 rfl (lv_at hl 0 rfl) ?_
  refine x_calliV (As := [.int 20]) (rest := []) (wr := []) C hw (c_X11_isWord qm 20 mtape m9 mnow mread mkept msnaps maside mname mreadName mkeptName misKept monces morder mordered mtext mline mwritten mnode) mwX11_isWord kw1363 [0] [] rfl rfl rfl rfl (by decide) 0 rfl rfl rfl rfl hl.1 rfl (Nat.le_of_ble_eq_true rfl) ⟨(Nat.le_of_ble_eq_true rfl), (Nat.le_of_ble_eq_true rfl)⟩ ⟨(Nat.le_of_ble_eq_true rfl), (Nat.le_of_ble_eq_true rfl)⟩ dX11_readSaid_18 (fun r4 u9 H locs hp9 hw => ?_)
  obtain ⟨rfl, rfl⟩ := hp9
  have hw : Wd G s A [(qm, .inr (10, [.int 0, .ref mtape, .int 0, .int 0, .int m9, .int 0, .int 0, .int 0, .int 0, .int 0, .int 0, .int 0, .long 0, .int 0, .ref mnow, .ref mread, .ref mkept, .ref msnaps, .ref maside, .ref mname, .ref mreadName, .ref mkeptName, .ref misKept, .ref monces, .int 0, .ref morder, .ref mordered, .int 0, .int 0, .int 0, .int (-1), .int (-1), .ref mtext, .int 0, .int 0, .ref mline, .ref mwritten, .int 0, .int 0, .ref mnode, .int 0, .int 0, .int 0, .int 0]))] H _ := hw
  refine lv_if_ne (tgt := 30) C.1 C.2.1 dX11_readSaid_21 (by decide) (fun h9 => absurd (by decide) h9) (fun _ => ?_)
  refine lv_iinc (v := 21) (lv' := [(2, .int 21), (1, .int 0), (0, .ref qm)]) C.1 C.2.1 dX11_readSaid_24 hl (k := 0) rfl (by decide) (by decide) rfl (fun ls hl => ?_)
  refine lv_goto (tgt := 10) C.1 C.2.1 dX11_readSaid_27 (by decide) ?_
  refine lv_iload_n C.1 C.2.1 dX11_readSaid_10 rfl (lv_at hl 0 rfl) ?_
  refine lv_bipush (v := 26) C.1 C.2.1 dX11_readSaid_11 (by decide) ?_
  refine lv_icmp_gt (tgt := 30) C.1 C.2.1 dX11_readSaid_13 (by decide) (fun h9 => absurd h9 (by decide)) (fun _ => ?_)
  refine lv_aload_n C.1 C.2.1 dX11_readSaid_16 rfl (lv_at hl 2 rfl) ?_
  refine lv_iload_n C.1 C.2.1 dX11_readSaid_17 rfl (lv_at hl 0 rfl) ?_
  refine x_calliV (As := [.int 21]) (rest := []) (wr := []) C hw (c_X11_isWord qm 21 mtape m9 mnow mread mkept msnaps maside mname mreadName mkeptName misKept monces morder mordered mtext mline mwritten mnode) mwX11_isWord kw1363 [0] [] rfl rfl rfl rfl (by decide) 0 rfl rfl rfl rfl hl.1 rfl (Nat.le_of_ble_eq_true rfl) ⟨(Nat.le_of_ble_eq_true rfl), (Nat.le_of_ble_eq_true rfl)⟩ ⟨(Nat.le_of_ble_eq_true rfl), (Nat.le_of_ble_eq_true rfl)⟩ dX11_readSaid_18 (fun r5 u9 H locs hp9 hw => ?_)
  obtain ⟨rfl, rfl⟩ := hp9
  have hw : Wd G s A [(qm, .inr (10, [.int 0, .ref mtape, .int 0, .int 0, .int m9, .int 0, .int 0, .int 0, .int 0, .int 0, .int 0, .int 0, .long 0, .int 0, .ref mnow, .ref mread, .ref mkept, .ref msnaps, .ref maside, .ref mname, .ref mreadName, .ref mkeptName, .ref misKept, .ref monces, .int 0, .ref morder, .ref mordered, .int 0, .int 0, .int 0, .int (-1), .int (-1), .ref mtext, .int 0, .int 0, .ref mline, .ref mwritten, .int 0, .int 0, .ref mnode, .int 0, .int 0, .int 0, .int 0]))] H _ := hw
  refine lv_if_ne (tgt := 30) C.1 C.2.1 dX11_readSaid_21 (by decide) (fun h9 => absurd (by decide) h9) (fun _ => ?_)
  refine lv_iinc (v := 22) (lv' := [(2, .int 22), (1, .int 0), (0, .ref qm)]) C.1 C.2.1 dX11_readSaid_24 hl (k := 0) rfl (by decide) (by decide) rfl (fun ls hl => ?_)
  refine lv_goto (tgt := 10) C.1 C.2.1 dX11_readSaid_27 (by decide) ?_
  refine lv_iload_n C.1 C.2.1 dX11_readSaid_10 rfl (lv_at hl 0 rfl) ?_
  refine lv_bipush (v := 26) C.1 C.2.1 dX11_readSaid_11 (by decide) ?_
  refine lv_icmp_gt (tgt := 30) C.1 C.2.1 dX11_readSaid_13 (by decide) (fun h9 => absurd h9 (by decide)) (fun _ => ?_)
  refine lv_aload_n C.1 C.2.1 dX11_readSaid_16 rfl (lv_at hl 2 rfl) ?_
  refine lv_iload_n C.1 C.2.1 dX11_readSaid_17 rfl (lv_at hl 0 rfl) ?_
  refine x_calliV (As := [.int 22]) (rest := []) (wr := []) C hw (c_X11_isWord qm 22 mtape m9 mnow mread mkept msnaps maside mname mreadName mkeptName misKept monces morder mordered mtext mline mwritten mnode) mwX11_isWord kw1363 [0] [] rfl rfl rfl rfl (by decide) 0 rfl rfl rfl rfl hl.1 rfl (Nat.le_of_ble_eq_true rfl) ⟨(Nat.le_of_ble_eq_true rfl), (Nat.le_of_ble_eq_true rfl)⟩ ⟨(Nat.le_of_ble_eq_true rfl), (Nat.le_of_ble_eq_true rfl)⟩ dX11_readSaid_18 (fun r6 u9 H locs hp9 hw => ?_)
  obtain ⟨rfl, rfl⟩ := hp9
  have hw : Wd G s A [(qm, .inr (10, [.int 0, .ref mtape, .int 0, .int 0, .int m9, .int 0, .int 0, .int 0, .int 0, .int 0, .int 0, .int 0, .long 0, .int 0, .ref mnow, .ref mread, .ref mkept, .ref msnaps, .ref maside, .ref mname, .ref mreadName, .ref mkeptName, .ref misKept, .ref monces, .int 0, .ref morder, .ref mordered, .int 0, .int 0, .int 0, .int (-1), .int (-1), .ref mtext, .int 0, .int 0, .ref mline, .ref mwritten, .int 0, .int 0, .ref mnode, .int 0, .int 0, .int 0, .int 0]))] H _ := hw
  refine lv_if_ne (tgt := 30) C.1 C.2.1 dX11_readSaid_21 (by decide) (fun h9 => absurd (by decide) h9) (fun _ => ?_)
  refine lv_iinc (v := 23) (lv' := [(2, .int 23), (1, .int 0), (0, .ref qm)]) C.1 C.2.1 dX11_readSaid_24 hl (k := 0) rfl (by decide) (by decide) rfl (fun ls hl => ?_)
  refine lv_goto (tgt := 10) C.1 C.2.1 dX11_readSaid_27 (by decide) ?_
  refine lv_iload_n C.1 C.2.1 dX11_readSaid_10 rfl (lv_at hl 0 rfl) ?_
  refine lv_bipush (v := 26) C.1 C.2.1 dX11_readSaid_11 (by decide) ?_
  refine lv_icmp_gt (tgt := 30) C.1 C.2.1 dX11_readSaid_13 (by decide) (fun h9 => absurd h9 (by decide)) (fun _ => ?_)
  refine lv_aload_n C.1 C.2.1 dX11_readSaid_16 rfl (lv_at hl 2 rfl) ?_
  refine lv_iload_n C.1 C.2.1 dX11_readSaid_17 rfl (lv_at hl 0 rfl) ?_
  refine x_calliV (As := [.int 23]) (rest := []) (wr := []) C hw (c_X11_isWord qm 23 mtape m9 mnow mread mkept msnaps maside mname mreadName mkeptName misKept monces morder mordered mtext mline mwritten mnode) mwX11_isWord kw1363 [0] [] rfl rfl rfl rfl (by decide) 0 rfl rfl rfl rfl hl.1 rfl (Nat.le_of_ble_eq_true rfl) ⟨(Nat.le_of_ble_eq_true rfl), (Nat.le_of_ble_eq_true rfl)⟩ ⟨(Nat.le_of_ble_eq_true rfl), (Nat.le_of_ble_eq_true rfl)⟩ dX11_readSaid_18 (fun r7 u9 H locs hp9 hw => ?_)
  obtain ⟨rfl, rfl⟩ := hp9
  have hw : Wd G s A [(qm, .inr (10, [.int 0, .ref mtape, .int 0, .int 0, .int m9, .int 0, .int 0, .int 0, .int 0, .int 0, .int 0, .int 0, .long 0, .int 0, .ref mnow, .ref mread, .ref mkept, .ref msnaps, .ref maside, .ref mname, .ref mreadName, .ref mkeptName, .ref misKept, .ref monces, .int 0, .ref morder, .ref mordered, .int 0, .int 0, .int 0, .int (-1), .int (-1), .ref mtext, .int 0, .int 0, .ref mline, .ref mwritten, .int 0, .int 0, .ref mnode, .int 0, .int 0, .int 0, .int 0]))] H _ := hw
  refine lv_if_ne (tgt := 30) C.1 C.2.1 dX11_readSaid_21 (by decide) (fun h9 => absurd (by decide) h9) (fun _ => ?_)
  refine lv_iinc (v := 24) (lv' := [(2, .int 24), (1, .int 0), (0, .ref qm)]) C.1 C.2.1 dX11_readSaid_24 hl (k := 0) rfl (by decide) (by decide) rfl (fun ls hl => ?_)
  refine lv_goto (tgt := 10) C.1 C.2.1 dX11_readSaid_27 (by decide) ?_
  refine lv_iload_n C.1 C.2.1 dX11_readSaid_10 rfl (lv_at hl 0 rfl) ?_
  refine lv_bipush (v := 26) C.1 C.2.1 dX11_readSaid_11 (by decide) ?_
  refine lv_icmp_gt (tgt := 30) C.1 C.2.1 dX11_readSaid_13 (by decide) (fun h9 => absurd h9 (by decide)) (fun _ => ?_)
  refine lv_aload_n C.1 C.2.1 dX11_readSaid_16 rfl (lv_at hl 2 rfl) ?_
  refine lv_iload_n C.1 C.2.1 dX11_readSaid_17 rfl (lv_at hl 0 rfl) ?_
  refine x_calliV (As := [.int 24]) (rest := []) (wr := []) C hw (c_X11_isWord qm 24 mtape m9 mnow mread mkept msnaps maside mname mreadName mkeptName misKept monces morder mordered mtext mline mwritten mnode) mwX11_isWord kw1363 [0] [] rfl rfl rfl rfl (by decide) 0 rfl rfl rfl rfl hl.1 rfl (Nat.le_of_ble_eq_true rfl) ⟨(Nat.le_of_ble_eq_true rfl), (Nat.le_of_ble_eq_true rfl)⟩ ⟨(Nat.le_of_ble_eq_true rfl), (Nat.le_of_ble_eq_true rfl)⟩ dX11_readSaid_18 (fun r8 u9 H locs hp9 hw => ?_)
  obtain ⟨rfl, rfl⟩ := hp9
  have hw : Wd G s A [(qm, .inr (10, [.int 0, .ref mtape, .int 0, .int 0, .int m9, .int 0, .int 0, .int 0, .int 0, .int 0, .int 0, .int 0, .long 0, .int 0, .ref mnow, .ref mread, .ref mkept, .ref msnaps, .ref maside, .ref mname, .ref mreadName, .ref mkeptName, .ref misKept, .ref monces, .int 0, .ref morder, .ref mordered, .int 0, .int 0, .int 0, .int (-1), .int (-1), .ref mtext, .int 0, .int 0, .ref mline, .ref mwritten, .int 0, .int 0, .ref mnode, .int 0, .int 0, .int 0, .int 0]))] H _ := hw
  refine lv_if_ne (tgt := 30) C.1 C.2.1 dX11_readSaid_21 (by decide) (fun h9 => absurd (by decide) h9) (fun _ => ?_)
  refine lv_iinc (v := 25) (lv' := [(2, .int 25), (1, .int 0), (0, .ref qm)]) C.1 C.2.1 dX11_readSaid_24 hl (k := 0) rfl (by decide) (by decide) rfl (fun ls hl => ?_)
  refine lv_goto (tgt := 10) C.1 C.2.1 dX11_readSaid_27 (by decide) ?_
  refine lv_iload_n C.1 C.2.1 dX11_readSaid_10 rfl (lv_at hl 0 rfl) ?_
  refine lv_bipush (v := 26) C.1 C.2.1 dX11_readSaid_11 (by decide) ?_
  refine lv_icmp_gt (tgt := 30) C.1 C.2.1 dX11_readSaid_13 (by decide) (fun h9 => absurd h9 (by decide)) (fun _ => ?_)
  refine lv_aload_n C.1 C.2.1 dX11_readSaid_16 rfl (lv_at hl 2 rfl) ?_
  refine lv_iload_n C.1 C.2.1 dX11_readSaid_17 rfl (lv_at hl 0 rfl) ?_
  refine x_calliV (As := [.int 25]) (rest := []) (wr := []) C hw (c_X11_isWord qm 25 mtape m9 mnow mread mkept msnaps maside mname mreadName mkeptName misKept monces morder mordered mtext mline mwritten mnode) mwX11_isWord kw1363 [0] [] rfl rfl rfl rfl (by decide) 0 rfl rfl rfl rfl hl.1 rfl (Nat.le_of_ble_eq_true rfl) ⟨(Nat.le_of_ble_eq_true rfl), (Nat.le_of_ble_eq_true rfl)⟩ ⟨(Nat.le_of_ble_eq_true rfl), (Nat.le_of_ble_eq_true rfl)⟩ dX11_readSaid_18 (fun r9 u9 H locs hp9 hw => ?_)
  obtain ⟨rfl, rfl⟩ := hp9
  have hw : Wd G s A [(qm, .inr (10, [.int 0, .ref mtape, .int 0, .int 0, .int m9, .int 0, .int 0, .int 0, .int 0, .int 0, .int 0, .int 0, .long 0, .int 0, .ref mnow, .ref mread, .ref mkept, .ref msnaps, .ref maside, .ref mname, .ref mreadName, .ref mkeptName, .ref misKept, .ref monces, .int 0, .ref morder, .ref mordered, .int 0, .int 0, .int 0, .int (-1), .int (-1), .ref mtext, .int 0, .int 0, .ref mline, .ref mwritten, .int 0, .int 0, .ref mnode, .int 0, .int 0, .int 0, .int 0]))] H _ := hw
  refine lv_if_ne (tgt := 30) C.1 C.2.1 dX11_readSaid_21 (by decide) (fun h9 => absurd (by decide) h9) (fun _ => ?_)
  refine lv_iinc (v := 26) (lv' := [(2, .int 26), (1, .int 0), (0, .ref qm)]) C.1 C.2.1 dX11_readSaid_24 hl (k := 0) rfl (by decide) (by decide) rfl (fun ls hl => ?_)
  refine lv_goto (tgt := 10) C.1 C.2.1 dX11_readSaid_27 (by decide) ?_
  refine lv_iload_n C.1 C.2.1 dX11_readSaid_10 rfl (lv_at hl 0 rfl) ?_
  refine lv_bipush (v := 26) C.1 C.2.1 dX11_readSaid_11 (by decide) ?_
  refine lv_icmp_gt (tgt := 30) C.1 C.2.1 dX11_readSaid_13 (by decide) (fun h9 => absurd h9 (by decide)) (fun _ => ?_)
  refine lv_aload_n C.1 C.2.1 dX11_readSaid_16 rfl (lv_at hl 2 rfl) ?_
  refine lv_iload_n C.1 C.2.1 dX11_readSaid_17 rfl (lv_at hl 0 rfl) ?_
  refine x_calliV (As := [.int 26]) (rest := []) (wr := []) C hw (c_X11_isWord qm 26 mtape m9 mnow mread mkept msnaps maside mname mreadName mkeptName misKept monces morder mordered mtext mline mwritten mnode) mwX11_isWord kw1363 [0] [] rfl rfl rfl rfl (by decide) 0 rfl rfl rfl rfl hl.1 rfl (Nat.le_of_ble_eq_true rfl) ⟨(Nat.le_of_ble_eq_true rfl), (Nat.le_of_ble_eq_true rfl)⟩ ⟨(Nat.le_of_ble_eq_true rfl), (Nat.le_of_ble_eq_true rfl)⟩ dX11_readSaid_18 (fun r10 u9 H locs hp9 hw => ?_)
  obtain ⟨rfl, rfl⟩ := hp9
  have hw : Wd G s A [(qm, .inr (10, [.int 0, .ref mtape, .int 0, .int 0, .int m9, .int 0, .int 0, .int 0, .int 0, .int 0, .int 0, .int 0, .long 0, .int 0, .ref mnow, .ref mread, .ref mkept, .ref msnaps, .ref maside, .ref mname, .ref mreadName, .ref mkeptName, .ref misKept, .ref monces, .int 0, .ref morder, .ref mordered, .int 0, .int 0, .int 0, .int (-1), .int (-1), .ref mtext, .int 0, .int 0, .ref mline, .ref mwritten, .int 0, .int 0, .ref mnode, .int 0, .int 0, .int 0, .int 0]))] H _ := hw
  refine lv_if_ne (tgt := 30) C.1 C.2.1 dX11_readSaid_21 (by decide) (fun h9 => absurd (by decide) h9) (fun _ => ?_)
  refine lv_iinc (v := 27) (lv' := [(2, .int 27), (1, .int 0), (0, .ref qm)]) C.1 C.2.1 dX11_readSaid_24 hl (k := 0) rfl (by decide) (by decide) rfl (fun ls hl => ?_)
  refine lv_goto (tgt := 10) C.1 C.2.1 dX11_readSaid_27 (by decide) ?_
  refine lv_iload_n C.1 C.2.1 dX11_readSaid_10 rfl (lv_at hl 0 rfl) ?_
  refine lv_bipush (v := 26) C.1 C.2.1 dX11_readSaid_11 (by decide) ?_
  refine lv_icmp_gt (tgt := 30) C.1 C.2.1 dX11_readSaid_13 (by decide) (fun _ => ?_) (fun h9 => absurd (by decide) h9)
  refine lv_iload_n C.1 C.2.1 dX11_readSaid_30 rfl (lv_at hl 1 rfl) ?_
  refine lv_if_ne (tgt := 46) C.1 C.2.1 dX11_readSaid_31 (by decide) (fun h9 => absurd (by decide) h9) (fun _ => ?_)
  refine lv_iload_n C.1 C.2.1 dX11_readSaid_34 rfl (lv_at hl 0 rfl) ?_
  refine lv_bipush (v := 26) C.1 C.2.1 dX11_readSaid_35 (by decide) ?_
  refine lv_icmp_le (tgt := 46) C.1 C.2.1 dX11_readSaid_37 (by decide) (fun h9 => absurd h9 (by decide)) (fun _ => ?_)
  refine lv_aload_n C.1 C.2.1 dX11_readSaid_40 rfl (lv_at hl 2 rfl) ?_
  refine lv_iconst (v := 1) C.1 C.2.1 dX11_readSaid_41 (by decide) ?_
  refine x_calliV (As := [.int 1]) (rest := []) (wr := []) C hw (c_X11_bad qm 1 mtape m9 mnow mread mkept msnaps maside mname mreadName mkeptName misKept monces morder mordered mtext mline mwritten mnode) mwX11_bad kw1381 [0] [] rfl rfl rfl rfl (by decide) 0 rfl rfl rfl rfl hl.1 rfl (Nat.le_of_ble_eq_true rfl) ⟨(Nat.le_of_ble_eq_true rfl), (Nat.le_of_ble_eq_true rfl)⟩ ⟨(Nat.le_of_ble_eq_true rfl), (Nat.le_of_ble_eq_true rfl)⟩ dX11_readSaid_42 (fun r11 u9 H locs hp9 hw => ?_)
  obtain ⟨rfl, rfl⟩ := hp9
  have hw : Wd G s A [(qm, .inr (10, [.int 0, .ref mtape, .int 0, .int 0, .int m9, .int 0, .int 0, .int 0, .int 0, .int 0, .int 1, .int 0, .long 0, .int 0, .ref mnow, .ref mread, .ref mkept, .ref msnaps, .ref maside, .ref mname, .ref mreadName, .ref mkeptName, .ref misKept, .ref monces, .int 0, .ref morder, .ref mordered, .int 0, .int 0, .int 0, .int (-1), .int (-1), .ref mtext, .int 0, .int 0, .ref mline, .ref mwritten, .int 0, .int 0, .ref mnode, .int 0, .int 0, .int 0, .int 0]))] H _ := hw
  exact x_retz B hw rfl ⟨rfl, rfl⟩ (Nat.le_of_ble_eq_true rfl) (Nat.le_of_ble_eq_true rfl) dX11_readSaid_45
theorem dX11_readAnd_0 : decode cX11_readAnd 0 = .ok (.aload_n 0, 1) := by decide +kernel
theorem dX11_readAnd_1 : decode cX11_readAnd 1 = .ok (.invokevirtual 407, 3) := by decide +kernel
theorem mwX11_readSaid : MwV yX11_readSaid cX11_readSaid 4 (some .boolean) 0 := ⟨⟨kw1771, kw15, by decide +kernel⟩, kw1770, kS109⟩
theorem dX11_readAnd_4 : decode cX11_readAnd 4 = .ok (.ifCond .ne 5, 3) := by decide +kernel
theorem dX11_readAnd_7 : decode cX11_readAnd 7 = .ok (.iconst 0, 1) := by decide +kernel
theorem dX11_readAnd_8 : decode cX11_readAnd 8 = .ok (.ireturn, 1) := by decide +kernel
set_option maxHeartbeats 4000000 in
set_option maxRecDepth 100000 in
theorem c_X11_readAnd {l : Launch} {G : Gc} (qm : Nat) (mtape : Nat) (m9 : Int32) (mnow : Nat) (mread : Nat) (mkept : Nat) (msnaps : Nat) (maside : Nat) (mname : Nat) (mreadName : Nat) (mkeptName : Nat) (misKept : Nat) (monces : Nat) (morder : Nat) (mordered : Nat) (mtext : Nat) (mline : Nat) (mwritten : Nat) (mnode : Nat)  : Ci l yX11_readAnd cX11_readAnd 2 (some .boolean) 2 0 0 G [.ref qm] [(qm, .inr (10, [.int 0, .ref mtape, .int 0, .int 0, .int m9, .int 0, .int 0, .int 0, .int 0, .int 0, .int 0, .int 0, .long 0, .int 0, .ref mnow, .ref mread, .ref mkept, .ref msnaps, .ref maside, .ref mname, .ref mreadName, .ref mkeptName, .ref misKept, .ref monces, .int 0, .ref morder, .ref mordered, .int 0, .int 0, .int 0, .int (-1), .int (-1), .ref mtext, .int 0, .int 0, .ref mline, .ref mwritten, .int 0, .int 0, .ref mnode, .int 0, .int 0, .int 0, .int 0]))] (fun (r9 : Int32) (u9 : va_W) => r9 = 0 ∧ u9 = [(qm, .inr (10, [.int 0, .ref mtape, .int 0, .int 0, .int m9, .int 0, .int 0, .int 0, .int 0, .int 0, .int 1, .int 0, .long 0, .int 0, .ref mnow, .ref mread, .ref mkept, .ref msnaps, .ref maside, .ref mname, .ref mreadName, .ref mkeptName, .ref misKept, .ref monces, .int 0, .ref morder, .ref mordered, .int 0, .int 0, .int 0, .int (-1), .int (-1), .ref mtext, .int 0, .int 0, .ref mline, .ref mwritten, .int 0, .int 0, .ref mnode, .int 0, .int 0, .int 0, .int 0]))]) := by
  refine Ci.of (by decide) (Nat.le_of_ble_eq_true rfl) ?_
  intro p e s m below meth c ls A B hw hl
  have C : CallFix p m c cX11_readAnd 2 s _ gw "LanternStateModel" := B.1
  have hl : lv_has ls 2 [(0, .ref qm)] := hl
  refine lv_aload_n C.1 C.2.1 dX11_readAnd_0 rfl (lv_at hl 0 rfl) ?_
  refine x_calliV (As := []) (rest := []) (wr := []) C hw (c_X11_readSaid qm mtape m9 mnow mread mkept msnaps maside mname mreadName mkeptName misKept monces morder mordered mtext mline mwritten mnode) mwX11_readSaid kw1768 [0] [] rfl rfl rfl rfl (by decide) 0 rfl rfl rfl rfl hl.1 rfl (Nat.le_of_ble_eq_true rfl) ⟨(Nat.le_of_ble_eq_true rfl), (Nat.le_of_ble_eq_true rfl)⟩ ⟨(Nat.le_of_ble_eq_true rfl), (Nat.le_of_ble_eq_true rfl)⟩ dX11_readAnd_1 (fun r1 u9 H locs hp9 hw => ?_)
  obtain ⟨rfl, rfl⟩ := hp9
  have hw : Wd G s A [(qm, .inr (10, [.int 0, .ref mtape, .int 0, .int 0, .int m9, .int 0, .int 0, .int 0, .int 0, .int 0, .int 1, .int 0, .long 0, .int 0, .ref mnow, .ref mread, .ref mkept, .ref msnaps, .ref maside, .ref mname, .ref mreadName, .ref mkeptName, .ref misKept, .ref monces, .int 0, .ref morder, .ref mordered, .int 0, .int 0, .int 0, .int (-1), .int (-1), .ref mtext, .int 0, .int 0, .ref mline, .ref mwritten, .int 0, .int 0, .ref mnode, .int 0, .int 0, .int 0, .int 0]))] H _ := hw
  refine lv_if_ne (tgt := 9) C.1 C.2.1 dX11_readAnd_4 (by decide) (fun h9 => absurd (by decide) h9) (fun _ => ?_)
  refine lv_iconst (v := 0) C.1 C.2.1 dX11_readAnd_7 (by decide) ?_
  exact x_retz B hw rfl ⟨rfl, rfl⟩ (Nat.le_of_ble_eq_true rfl) (Nat.le_of_ble_eq_true rfl) dX11_readAnd_8
theorem dX11_readOr_0 : decode cX11_readOr 0 = .ok (.aload_n 0, 1) := by decide +kernel
theorem dX11_readOr_1 : decode cX11_readOr 1 = .ok (.invokevirtual 397, 3) := by decide +kernel
theorem mwX11_readAnd : MwV yX11_readAnd cX11_readAnd 2 (some .boolean) 0 := ⟨⟨kw1767, kw15, by decide +kernel⟩, kw1766, kS108⟩
theorem dX11_readOr_4 : decode cX11_readOr 4 = .ok (.ifCond .ne 5, 3) := by decide +kernel
theorem dX11_readOr_7 : decode cX11_readOr 7 = .ok (.iconst 0, 1) := by decide +kernel
theorem dX11_readOr_8 : decode cX11_readOr 8 = .ok (.ireturn, 1) := by decide +kernel
set_option maxHeartbeats 4000000 in
set_option maxRecDepth 100000 in
theorem c_X11_readOr {l : Launch} {G : Gc} (qm : Nat) (mtape : Nat) (m9 : Int32) (mnow : Nat) (mread : Nat) (mkept : Nat) (msnaps : Nat) (maside : Nat) (mname : Nat) (mreadName : Nat) (mkeptName : Nat) (misKept : Nat) (monces : Nat) (morder : Nat) (mordered : Nat) (mtext : Nat) (mline : Nat) (mwritten : Nat) (mnode : Nat)  : Ci l yX11_readOr cX11_readOr 2 (some .boolean) 3 0 0 G [.ref qm] [(qm, .inr (10, [.int 0, .ref mtape, .int 0, .int 0, .int m9, .int 0, .int 0, .int 0, .int 0, .int 0, .int 0, .int 0, .long 0, .int 0, .ref mnow, .ref mread, .ref mkept, .ref msnaps, .ref maside, .ref mname, .ref mreadName, .ref mkeptName, .ref misKept, .ref monces, .int 0, .ref morder, .ref mordered, .int 0, .int 0, .int 0, .int (-1), .int (-1), .ref mtext, .int 0, .int 0, .ref mline, .ref mwritten, .int 0, .int 0, .ref mnode, .int 0, .int 0, .int 0, .int 0]))] (fun (r9 : Int32) (u9 : va_W) => r9 = 0 ∧ u9 = [(qm, .inr (10, [.int 0, .ref mtape, .int 0, .int 0, .int m9, .int 0, .int 0, .int 0, .int 0, .int 0, .int 1, .int 0, .long 0, .int 0, .ref mnow, .ref mread, .ref mkept, .ref msnaps, .ref maside, .ref mname, .ref mreadName, .ref mkeptName, .ref misKept, .ref monces, .int 0, .ref morder, .ref mordered, .int 0, .int 0, .int 0, .int (-1), .int (-1), .ref mtext, .int 0, .int 0, .ref mline, .ref mwritten, .int 0, .int 0, .ref mnode, .int 0, .int 0, .int 0, .int 0]))]) := by
  refine Ci.of (by decide) (Nat.le_of_ble_eq_true rfl) ?_
  intro p e s m below meth c ls A B hw hl
  have C : CallFix p m c cX11_readOr 2 s _ gw "LanternStateModel" := B.1
  have hl : lv_has ls 2 [(0, .ref qm)] := hl
  refine lv_aload_n C.1 C.2.1 dX11_readOr_0 rfl (lv_at hl 0 rfl) ?_
  refine x_calliV (As := []) (rest := []) (wr := []) C hw (c_X11_readAnd qm mtape m9 mnow mread mkept msnaps maside mname mreadName mkeptName misKept monces morder mordered mtext mline mwritten mnode) mwX11_readAnd kw1764 [0] [] rfl rfl rfl rfl (by decide) 0 rfl rfl rfl rfl hl.1 rfl (Nat.le_of_ble_eq_true rfl) ⟨(Nat.le_of_ble_eq_true rfl), (Nat.le_of_ble_eq_true rfl)⟩ ⟨(Nat.le_of_ble_eq_true rfl), (Nat.le_of_ble_eq_true rfl)⟩ dX11_readOr_1 (fun r1 u9 H locs hp9 hw => ?_)
  obtain ⟨rfl, rfl⟩ := hp9
  have hw : Wd G s A [(qm, .inr (10, [.int 0, .ref mtape, .int 0, .int 0, .int m9, .int 0, .int 0, .int 0, .int 0, .int 0, .int 1, .int 0, .long 0, .int 0, .ref mnow, .ref mread, .ref mkept, .ref msnaps, .ref maside, .ref mname, .ref mreadName, .ref mkeptName, .ref misKept, .ref monces, .int 0, .ref morder, .ref mordered, .int 0, .int 0, .int 0, .int (-1), .int (-1), .ref mtext, .int 0, .int 0, .ref mline, .ref mwritten, .int 0, .int 0, .ref mnode, .int 0, .int 0, .int 0, .int 0]))] H _ := hw
  refine lv_if_ne (tgt := 9) C.1 C.2.1 dX11_readOr_4 (by decide) (fun h9 => absurd (by decide) h9) (fun _ => ?_)
  refine lv_iconst (v := 0) C.1 C.2.1 dX11_readOr_7 (by decide) ?_
  exact x_retz B hw rfl ⟨rfl, rfl⟩ (Nat.le_of_ble_eq_true rfl) (Nat.le_of_ble_eq_true rfl) dX11_readOr_8
theorem dX11_sentence_0 : decode cX11_sentence 0 = .ok (.aload_n 0, 1) := by decide +kernel
theorem dX11_sentence_1 : decode cX11_sentence 1 = .ok (.sipush 200, 3) := by decide +kernel
theorem dX11_sentence_4 : decode cX11_sentence 4 = .ok (.invokevirtual 219, 3) := by decide +kernel
theorem dX11_sentence_7 : decode cX11_sentence 7 = .ok (.aload_n 0, 1) := by decide +kernel
theorem dX11_sentence_8 : decode cX11_sentence 8 = .ok (.iconst 0, 1) := by decide +kernel
theorem dX11_sentence_9 : decode cX11_sentence 9 = .ok (.putfield 394, 3) := by decide +kernel
theorem dX11_sentence_12 : decode cX11_sentence 12 = .ok (.aload_n 0, 1) := by decide +kernel
theorem dX11_sentence_13 : decode cX11_sentence 13 = .ok (.iconst 0, 1) := by decide +kernel
theorem dX11_sentence_14 : decode cX11_sentence 14 = .ok (.putfield 410, 3) := by decide +kernel
theorem dX11_sentence_17 : decode cX11_sentence 17 = .ok (.aload_n 0, 1) := by decide +kernel
theorem dX11_sentence_18 : decode cX11_sentence 18 = .ok (.iconst 0, 1) := by decide +kernel
theorem dX11_sentence_19 : decode cX11_sentence 19 = .ok (.putfield 413, 3) := by decide +kernel
theorem dX11_sentence_22 : decode cX11_sentence 22 = .ok (.aload_n 0, 1) := by decide +kernel
theorem dX11_sentence_23 : decode cX11_sentence 23 = .ok (.invokevirtual 428, 3) := by decide +kernel
theorem mwX11_readOr : MwV yX11_readOr cX11_readOr 2 (some .boolean) 0 := ⟨⟨kw1763, kw15, by decide +kernel⟩, kw1762, kS107⟩
theorem dX11_sentence_26 : decode cX11_sentence 26 = .ok (.ifCond .ne 10, 3) := by decide +kernel
theorem dX11_sentence_29 : decode cX11_sentence 29 = .ok (.iconst (-1), 1) := by decide +kernel
theorem dX11_sentence_30 : decode cX11_sentence 30 = .ok (.aload_n 0, 1) := by decide +kernel
theorem dX11_sentence_31 : decode cX11_sentence 31 = .ok (.getfield 69, 3) := by decide +kernel
theorem dX11_sentence_34 : decode cX11_sentence 34 = .ok (.isub, 1) := by decide +kernel
theorem dX11_sentence_35 : decode cX11_sentence 35 = .ok (.ireturn, 1) := by decide +kernel
set_option maxHeartbeats 4000000 in
set_option maxRecDepth 100000 in
theorem c_X11_sentence {l : Launch} {G : Gc} (qm : Nat) (mtape : Nat) (mnow : Nat) (mread : Nat) (mkept : Nat) (msnaps : Nat) (maside : Nat) (mname : Nat) (mreadName : Nat) (mkeptName : Nat) (misKept : Nat) (monces : Nat) (morder : Nat) (mordered : Nat) (mtext : Nat) (mline : Nat) (mwritten : Nat) (mnode : Nat)  : Ci l yX11_sentence cX11_sentence 2 (some .int) 4 0 0 G [.ref qm] [(qm, .inr (10, [.int 0, .ref mtape, .int 0, .int 0, .int 0, .int 0, .int 0, .int 0, .int 0, .int 0, .int 0, .int 0, .long 0, .int 0, .ref mnow, .ref mread, .ref mkept, .ref msnaps, .ref maside, .ref mname, .ref mreadName, .ref mkeptName, .ref misKept, .ref monces, .int 0, .ref morder, .ref mordered, .int 0, .int 0, .int 0, .int (-1), .int (-1), .ref mtext, .int 0, .int 0, .ref mline, .ref mwritten, .int 0, .int 0, .ref mnode, .int 0, .int 0, .int 0, .int 0]))] (fun (r9 : Int32) (u9 : va_W) => r9 = (-1) ∧ u9 = []) := by
  refine Ci.of (by decide) (Nat.le_of_ble_eq_true rfl) ?_
  intro p e s m below meth c ls A B hw hl
  have C : CallFix p m c cX11_sentence 2 s _ gw "LanternStateModel" := B.1
  have hl : lv_has ls 2 [(0, .ref qm)] := hl
  refine lv_aload_n C.1 C.2.1 dX11_sentence_0 rfl (lv_at hl 0 rfl) ?_
  refine lv_sipush (v := 200) C.1 C.2.1 dX11_sentence_1 (by decide) ?_
  refine x_callvV (As := [.int 200]) (rest := []) (wr := []) C hw (c_X11_begin qm 200 mtape mnow mread mkept msnaps maside mname mreadName mkeptName misKept monces morder mordered mtext mline mwritten mnode (by decide)) mwX11_begin kw1335 [0] [] rfl rfl rfl rfl (by decide) 0 rfl rfl rfl rfl hl.1 rfl (Nat.le_of_ble_eq_true rfl) ⟨(Nat.le_of_ble_eq_true rfl), (Nat.le_of_ble_eq_true rfl)⟩ ⟨(Nat.le_of_ble_eq_true rfl), (Nat.le_of_ble_eq_true rfl)⟩ dX11_sentence_4 (fun  u9 H locs hp9 hw => ?_)
  obtain rfl := hp9
  have hw : Wd G s A [(qm, .inr (10, [.int 0, .ref mtape, .int 0, .int 0, .int 200, .int 0, .int 0, .int 0, .int 0, .int 0, .int 0, .int 0, .long 0, .int 0, .ref mnow, .ref mread, .ref mkept, .ref msnaps, .ref maside, .ref mname, .ref mreadName, .ref mkeptName, .ref misKept, .ref monces, .int 0, .ref morder, .ref mordered, .int 0, .int 0, .int 0, .int (-1), .int (-1), .ref mtext, .int 0, .int 0, .ref mline, .ref mwritten, .int 0, .int 0, .ref mnode, .int 0, .int 0, .int 0, .int 0]))] H _ := hw
  refine lv_aload_n C.1 C.2.1 dX11_sentence_7 rfl (lv_at hl 0 rfl) ?_
  refine lv_iconst (v := 0) C.1 C.2.1 dX11_sentence_8 (by decide) ?_
  refine x_put (w' := [(qm, .inr (10, [.int 0, .ref mtape, .int 0, .int 0, .int 200, .int 0, .int 0, .int 0, .int 0, .int 0, .int 0, .int 0, .long 0, .int 0, .ref mnow, .ref mread, .ref mkept, .ref msnaps, .ref maside, .ref mname, .ref mreadName, .ref mkeptName, .ref misKept, .ref monces, .int 0, .ref morder, .ref mordered, .int 0, .int 0, .int 0, .int (-1), .int (-1), .ref mtext, .int 0, .int 0, .ref mline, .ref mwritten, .int 0, .int 0, .ref mnode, .int 0, .int 0, .int 0, .int 0]))]) C hw iwX11 tyX11_ok nmX11 10 rfl 0 rfl 40 (by decide) kw1237 rfl rfl rfl (Nat.le_of_ble_eq_true rfl) rfl dX11_sentence_9 (fun H locs hw => ?_)
  refine lv_aload_n C.1 C.2.1 dX11_sentence_12 rfl (lv_at hl 0 rfl) ?_
  refine lv_iconst (v := 0) C.1 C.2.1 dX11_sentence_13 (by decide) ?_
  refine x_put (w' := [(qm, .inr (10, [.int 0, .ref mtape, .int 0, .int 0, .int 200, .int 0, .int 0, .int 0, .int 0, .int 0, .int 0, .int 0, .long 0, .int 0, .ref mnow, .ref mread, .ref mkept, .ref msnaps, .ref maside, .ref mname, .ref mreadName, .ref mkeptName, .ref misKept, .ref monces, .int 0, .ref morder, .ref mordered, .int 0, .int 0, .int 0, .int (-1), .int (-1), .ref mtext, .int 0, .int 0, .ref mline, .ref mwritten, .int 0, .int 0, .ref mnode, .int 0, .int 0, .int 0, .int 0]))]) C hw iwX11 tyX11_ok nmX11 10 rfl 0 rfl 41 (by decide) kw1238 rfl rfl rfl (Nat.le_of_ble_eq_true rfl) rfl dX11_sentence_14 (fun H locs hw => ?_)
  refine lv_aload_n C.1 C.2.1 dX11_sentence_17 rfl (lv_at hl 0 rfl) ?_
  refine lv_iconst (v := 0) C.1 C.2.1 dX11_sentence_18 (by decide) ?_
  refine x_put (w' := [(qm, .inr (10, [.int 0, .ref mtape, .int 0, .int 0, .int 200, .int 0, .int 0, .int 0, .int 0, .int 0, .int 0, .int 0, .long 0, .int 0, .ref mnow, .ref mread, .ref mkept, .ref msnaps, .ref maside, .ref mname, .ref mreadName, .ref mkeptName, .ref misKept, .ref monces, .int 0, .ref morder, .ref mordered, .int 0, .int 0, .int 0, .int (-1), .int (-1), .ref mtext, .int 0, .int 0, .ref mline, .ref mwritten, .int 0, .int 0, .ref mnode, .int 0, .int 0, .int 0, .int 0]))]) C hw iwX11 tyX11_ok nmX11 10 rfl 0 rfl 42 (by decide) kw1239 rfl rfl rfl (Nat.le_of_ble_eq_true rfl) rfl dX11_sentence_19 (fun H locs hw => ?_)
  refine lv_aload_n C.1 C.2.1 dX11_sentence_22 rfl (lv_at hl 0 rfl) ?_
  refine x_calliV (As := []) (rest := []) (wr := []) C hw (c_X11_readOr qm mtape 200 mnow mread mkept msnaps maside mname mreadName mkeptName misKept monces morder mordered mtext mline mwritten mnode) mwX11_readOr kw1760 [0] [] rfl rfl rfl rfl (by decide) 0 rfl rfl rfl rfl hl.1 rfl (Nat.le_of_ble_eq_true rfl) ⟨(Nat.le_of_ble_eq_true rfl), (Nat.le_of_ble_eq_true rfl)⟩ ⟨(Nat.le_of_ble_eq_true rfl), (Nat.le_of_ble_eq_true rfl)⟩ dX11_sentence_23 (fun r1 u9 H locs hp9 hw => ?_)
  obtain ⟨rfl, rfl⟩ := hp9
  have hw : Wd G s A [(qm, .inr (10, [.int 0, .ref mtape, .int 0, .int 0, .int 200, .int 0, .int 0, .int 0, .int 0, .int 0, .int 1, .int 0, .long 0, .int 0, .ref mnow, .ref mread, .ref mkept, .ref msnaps, .ref maside, .ref mname, .ref mreadName, .ref mkeptName, .ref misKept, .ref monces, .int 0, .ref morder, .ref mordered, .int 0, .int 0, .int 0, .int (-1), .int (-1), .ref mtext, .int 0, .int 0, .ref mline, .ref mwritten, .int 0, .int 0, .ref mnode, .int 0, .int 0, .int 0, .int 0]))] H _ := hw
  refine lv_if_ne (tgt := 36) C.1 C.2.1 dX11_sentence_26 (by decide) (fun h9 => absurd (by decide) h9) (fun _ => ?_)
  refine lv_iconst (v := (-1)) C.1 C.2.1 dX11_sentence_29 (by decide) ?_
  refine lv_aload_n C.1 C.2.1 dX11_sentence_30 rfl (lv_at hl 0 rfl) ?_
  refine x_get C hw iwX11 10 rfl 0 rfl 11 (by decide) kw1208 rfl dX11_sentence_31 ?_
  refine lv_isub C.1 C.2.1 dX11_sentence_34 ?_
  refine x_topi (z := (-1)) (by decide) ?_
  have hw := hw.sub (w' := []) [] rfl rfl
  exact x_reti B hw ⟨rfl, rfl⟩ (Nat.le_of_ble_eq_true rfl) (Nat.le_of_ble_eq_true rfl) dX11_sentence_35
theorem dX11_image_16 : decode cX11_image 16 = .ok (.iconst 0, 1) := by decide +kernel
theorem dX11_image_17 : decode cX11_image 17 = .ok (.istore_n 2, 1) := by decide +kernel
theorem dX11_image_18 : decode cX11_image 18 = .ok (.iload_n 2, 1) := by decide +kernel
theorem dX11_image_19 : decode cX11_image 19 = .ok (.sipush 339, 3) := by decide +kernel
theorem dX11_image_22 : decode cX11_image 22 = .ok (.if_icmp .ge 27, 3) := by decide +kernel
theorem dX11_image_49 : decode cX11_image 49 = .ok (.iconst 0, 1) := by decide +kernel
theorem dX11_image_50 : decode cX11_image 50 = .ok (.istore_n 2, 1) := by decide +kernel
theorem dX11_image_51 : decode cX11_image 51 = .ok (.iload_n 2, 1) := by decide +kernel
theorem dX11_image_52 : decode cX11_image 52 = .ok (.bipush 14, 2) := by decide +kernel
theorem dX11_image_54 : decode cX11_image 54 = .ok (.if_icmp .ge 26, 3) := by decide +kernel
theorem dX11_image_80 : decode cX11_image 80 = .ok (.aload_n 0, 1) := by decide +kernel
theorem dX11_image_81 : decode cX11_image 81 = .ok (.getfield 123, 3) := by decide +kernel
theorem dX11_image_84 : decode cX11_image 84 = .ok (.iload_n 1, 1) := by decide +kernel
theorem dX11_image_85 : decode cX11_image 85 = .ok (.iconst 1, 1) := by decide +kernel
theorem dX11_image_86 : decode cX11_image 86 = .ok (.bastore, 1) := by decide +kernel
theorem dX11_image_87 : decode cX11_image 87 = .ok (.iconst 1, 1) := by decide +kernel
theorem dX11_image_88 : decode cX11_image 88 = .ok (.ireturn, 1) := by decide +kernel
theorem dX11_image_57 : decode cX11_image 57 = .ok (.aload_n 0, 1) := by decide +kernel
theorem dX11_image_58 : decode cX11_image 58 = .ok (.getfield 120, 3) := by decide +kernel
theorem dX11_image_61 : decode cX11_image 61 = .ok (.bipush 14, 2) := by decide +kernel
theorem dX11_image_63 : decode cX11_image 63 = .ok (.iload_n 1, 1) := by decide +kernel
theorem dX11_image_64 : decode cX11_image 64 = .ok (.imul, 1) := by decide +kernel
theorem dX11_image_65 : decode cX11_image 65 = .ok (.iload_n 2, 1) := by decide +kernel
theorem dX11_image_66 : decode cX11_image 66 = .ok (.iadd, 1) := by decide +kernel
theorem dX11_image_67 : decode cX11_image 67 = .ok (.aload_n 0, 1) := by decide +kernel
theorem dX11_image_68 : decode cX11_image 68 = .ok (.getfield 113, 3) := by decide +kernel
theorem dX11_image_71 : decode cX11_image 71 = .ok (.iload_n 2, 1) := by decide +kernel
theorem dX11_image_72 : decode cX11_image 72 = .ok (.laload, 1) := by decide +kernel
theorem dX11_image_73 : decode cX11_image 73 = .ok (.lastore, 1) := by decide +kernel
theorem dX11_image_74 : decode cX11_image 74 = .ok (.iinc 2 1, 3) := by decide +kernel
theorem dX11_image_77 : decode cX11_image 77 = .ok (.goto (-26), 3) := by decide +kernel
theorem dX11_image_25 : decode cX11_image 25 = .ok (.aload_n 0, 1) := by decide +kernel
theorem dX11_image_26 : decode cX11_image 26 = .ok (.getfield 104, 3) := by decide +kernel
theorem dX11_image_29 : decode cX11_image 29 = .ok (.sipush 339, 3) := by decide +kernel
theorem dX11_image_32 : decode cX11_image 32 = .ok (.iload_n 1, 1) := by decide +kernel
theorem dX11_image_33 : decode cX11_image 33 = .ok (.imul, 1) := by decide +kernel
theorem dX11_image_34 : decode cX11_image 34 = .ok (.iload_n 2, 1) := by decide +kernel
theorem dX11_image_35 : decode cX11_image 35 = .ok (.iadd, 1) := by decide +kernel
theorem dX11_image_36 : decode cX11_image 36 = .ok (.aload_n 0, 1) := by decide +kernel
theorem dX11_image_37 : decode cX11_image 37 = .ok (.getfield 98, 3) := by decide +kernel
theorem dX11_image_40 : decode cX11_image 40 = .ok (.iload_n 2, 1) := by decide +kernel
theorem dX11_image_41 : decode cX11_image 41 = .ok (.iaload, 1) := by decide +kernel
theorem dX11_image_42 : decode cX11_image 42 = .ok (.iastore, 1) := by decide +kernel
theorem dX11_image_43 : decode cX11_image 43 = .ok (.iinc 2 1, 3) := by decide +kernel
theorem dX11_image_46 : decode cX11_image 46 = .ok (.goto (-28), 3) := by decide +kernel
set_option maxHeartbeats 4000000 in
set_option maxRecDepth 100000 in
theorem c_X11_image__0 {l : Launch} {G : Gc} (qm : Nat) (mtape : Nat) (mnow : Nat) (mread : Nat) (mkept : Nat) (msnaps : Nat) (maside : Nat) (mname : Nat) (mreadName : Nat) (mkeptName : Nat) (misKept : Nat) (monces : Nat) (morder : Nat) (mordered : Nat) (mtext : Nat) (mline : Nat) (mwritten : Nat) (mnode : Nat)  : Ci l yX11_image cX11_image 3 (some .boolean) 1 0 0 G [.ref qm, .int 0] [(qm, .inr (10, [.int 0, .ref mtape, .int 0, .int 0, .int 0, .int 0, .int 0, .int 0, .int 0, .int 0, .int 0, .int 0, .long 0, .int 0, .ref mnow, .ref mread, .ref mkept, .ref msnaps, .ref maside, .ref mname, .ref mreadName, .ref mkeptName, .ref misKept, .ref monces, .int 0, .ref morder, .ref mordered, .int 0, .int 0, .int 0, .int (-1), .int (-1), .ref mtext, .int 0, .int 0, .ref mline, .ref mwritten, .int 0, .int 0, .ref mnode, .int 0, .int 0, .int 0, .int 0])), (mnow, eI G 339 nw0), (mkept, eI G 678 (fun _ => 0)), (mname, eJ G 14 (fun _ => 0)), (mkeptName, eJ G 28 (fun _ => 0)), (misKept, eZ G 2 (fun _ => 0))] (fun (r9 : Int32) (u9 : va_W) => r9 = 1 ∧ u9 = []) := by
  refine Ci.of (by decide) (Nat.le_of_ble_eq_true rfl) ?_
  intro p e s m below meth c ls A B hw hl
  have C : CallFix p m c cX11_image 3 s _ gw "LanternStateModel" := B.1
  have hl : lv_has ls 3 [(0, .ref qm), (1, .int 0)] := hl
  refine lv_aload_n C.1 C.2.1 dX11_image_0 rfl (lv_at hl 0 rfl) ?_
  refine lv_iconst (v := 0) C.1 C.2.1 dX11_image_1 (by decide) ?_
  refine x_put (w' := [(qm, .inr (10, [.int 0, .ref mtape, .int 0, .int 0, .int 0, .int 0, .int 0, .int 0, .int 0, .int 0, .int 0, .int 0, .long 0, .int 0, .ref mnow, .ref mread, .ref mkept, .ref msnaps, .ref maside, .ref mname, .ref mreadName, .ref mkeptName, .ref misKept, .ref monces, .int 0, .ref morder, .ref mordered, .int 0, .int 0, .int 0, .int (-1), .int (-1), .ref mtext, .int 0, .int 0, .ref mline, .ref mwritten, .int 0, .int 0, .ref mnode, .int 0, .int 0, .int 0, .int 0])), (mnow, eI G 339 nw0), (mkept, eI G 678 (fun _ => 0)), (mname, eJ G 14 (fun _ => 0)), (mkeptName, eJ G 28 (fun _ => 0)), (misKept, eZ G 2 (fun _ => 0))]) C hw iwX11 tyX11_ok nmX11 10 rfl 0 rfl 0 (by decide) kw1197 rfl rfl rfl (Nat.le_of_ble_eq_true rfl) rfl dX11_image_2 (fun H locs hw => ?_)
  refine lv_iload_n C.1 C.2.1 dX11_image_5 rfl (lv_at hl 1 rfl) ?_
  refine lv_iconst (v := 0) C.1 C.2.1 dX11_image_6 (by decide) ?_
  refine lv_iconst (v := 1) C.1 C.2.1 dX11_image_7 (by decide) ?_
  refine x_calliS (As := [.int 0, .int 0, .int 1]) (rest := []) (wr := [(qm, .inr (10, [.int 0, .ref mtape, .int 0, .int 0, .int 0, .int 0, .int 0, .int 0, .int 0, .int 0, .int 0, .int 0, .long 0, .int 0, .ref mnow, .ref mread, .ref mkept, .ref msnaps, .ref maside, .ref mname, .ref mreadName, .ref mkeptName, .ref misKept, .ref monces, .int 0, .ref morder, .ref mordered, .int 0, .int 0, .int 0, .int (-1), .int (-1), .ref mtext, .int 0, .int 0, .ref mline, .ref mwritten, .int 0, .int 0, .ref mnode, .int 0, .int 0, .int 0, .int 0])), (mnow, eI G 339 nw0), (mkept, eI G 678 (fun _ => 0)), (mname, eJ G 14 (fun _ => 0)), (mkeptName, eJ G 28 (fun _ => 0)), (misKept, eZ G 2 (fun _ => 0))]) C hw (c_X11_isInT 0 0 1 (by decide) (by decide)) mwX11_isIn kw1400 [] [0, 1, 2, 3, 4, 5] rfl rfl rfl rfl (by decide) rfl hl.1 rfl (Nat.le_of_ble_eq_true rfl) ⟨(Nat.le_of_ble_eq_true rfl), (Nat.le_of_ble_eq_true rfl)⟩ ⟨(Nat.le_of_ble_eq_true rfl), (Nat.le_of_ble_eq_true rfl)⟩ dX11_image_8 (fun r1 u9 H locs hp9 hw => ?_)
  obtain ⟨rfl, rfl⟩ := hp9
  have hw : Wd G s A [(qm, .inr (10, [.int 0, .ref mtape, .int 0, .int 0, .int 0, .int 0, .int 0, .int 0, .int 0, .int 0, .int 0, .int 0, .long 0, .int 0, .ref mnow, .ref mread, .ref mkept, .ref msnaps, .ref maside, .ref mname, .ref mreadName, .ref mkeptName, .ref misKept, .ref monces, .int 0, .ref morder, .ref mordered, .int 0, .int 0, .int 0, .int (-1), .int (-1), .ref mtext, .int 0, .int 0, .ref mline, .ref mwritten, .int 0, .int 0, .ref mnode, .int 0, .int 0, .int 0, .int 0])), (mnow, eI G 339 nw0), (mkept, eI G 678 (fun _ => 0)), (mname, eJ G 14 (fun _ => 0)), (mkeptName, eJ G 28 (fun _ => 0)), (misKept, eZ G 2 (fun _ => 0))] H _ := hw
  refine lv_if_ne (tgt := 16) C.1 C.2.1 dX11_image_11 (by decide) (fun _ => ?_) (fun h9 => absurd h9 (by decide))
  refine lv_iconst (v := 0) C.1 C.2.1 dX11_image_16 (by decide) ?_
  refine lv_istore_n (lv' := [(2, .int 0), (0, .ref qm), (1, .int 0)]) C.1 C.2.1 dX11_image_17 rfl hl (by decide) rfl (fun ls hl => ?_)
  have loop18 : ∀ (n9 : Nat) (k18 : Nat) (f18_0 : Nat → Int32), 339 - k18 < n9 → 0 ≤ k18 ∧ k18 ≤ 339 → ∀ (H : Heap) (locs : List Loc) (ls : Array Slot), Wd G s A [(qm, .inr (10, [.int 0, .ref mtape, .int 0, .int 0, .int 0, .int 0, .int 0, .int 0, .int 0, .int 0, .int 0, .int 0, .long 0, .int 0, .ref mnow, .ref mread, .ref mkept, .ref msnaps, .ref maside, .ref mname, .ref mreadName, .ref mkeptName, .ref misKept, .ref monces, .int 0, .ref morder, .ref mordered, .int 0, .int 0, .int 0, .int (-1), .int (-1), .ref mtext, .int 0, .int 0, .ref mline, .ref mwritten, .int 0, .int 0, .ref mnode, .int 0, .int 0, .int 0, .int 0])), (mnow, eI G 339 nw0), (mkept, eI G 678 f18_0), (mname, eJ G 14 (fun _ => 0)), (mkeptName, eJ G 28 (fun _ => 0)), (misKept, eZ G 2 (fun _ => 0))] H locs → lv_has ls 3 [(2, .int (nI k18)), (0, .ref qm), (1, .int 0)] → W p l e (rmD 1 0 0) s m [.ref qm, .int 0].toArray below meth c H locs 0 0 (MQ below (va_Qi (fun (r9 : Int32) (u9 : va_W) => r9 = 1 ∧ u9 = []) (mB G A) A) [.ref qm, .int 0].toArray s 0 0 A) (F0 m 18 ls []) := by
    intro n9
    induction n9 with
    | zero => intro k18 f18_0 h9; exact absurd h9 (Nat.not_lt_zero _)
    | succ n9 ih =>
      intro k18 f18_0 h9 hi18 H locs ls hw hl
      refine lv_iload_n C.1 C.2.1 dX11_image_18 rfl (lv_at hl 0 rfl) ?_
      refine lv_sipush (v := 339) C.1 C.2.1 dX11_image_19 (by decide) ?_
      refine lv_icmp_ge (tgt := 49) C.1 C.2.1 dX11_image_22 (by decide) (fun c_22 => ?_) (fun c_22 => ?_)
      · skip
        refine lv_iconst (v := 0) C.1 C.2.1 dX11_image_49 (by decide) ?_
        refine lv_istore_n (lv' := [(2, .int 0), (0, .ref qm), (1, .int 0)]) C.1 C.2.1 dX11_image_50 rfl hl (by decide) rfl (fun ls hl => ?_)
        have loop51 : ∀ (n9 : Nat) (k51 : Nat) (f51_0 : Nat → Int64), 14 - k51 < n9 → 0 ≤ k51 ∧ k51 ≤ 14 → ∀ (H : Heap) (locs : List Loc) (ls : Array Slot), Wd G s A [(qm, .inr (10, [.int 0, .ref mtape, .int 0, .int 0, .int 0, .int 0, .int 0, .int 0, .int 0, .int 0, .int 0, .int 0, .long 0, .int 0, .ref mnow, .ref mread, .ref mkept, .ref msnaps, .ref maside, .ref mname, .ref mreadName, .ref mkeptName, .ref misKept, .ref monces, .int 0, .ref morder, .ref mordered, .int 0, .int 0, .int 0, .int (-1), .int (-1), .ref mtext, .int 0, .int 0, .ref mline, .ref mwritten, .int 0, .int 0, .ref mnode, .int 0, .int 0, .int 0, .int 0])), (mnow, eI G 339 nw0), (mkept, eI G 678 f18_0), (mname, eJ G 14 (fun _ => 0)), (mkeptName, eJ G 28 f51_0), (misKept, eZ G 2 (fun _ => 0))] H locs → lv_has ls 3 [(2, .int (nI k51)), (0, .ref qm), (1, .int 0)] → W p l e (rmD 1 0 0) s m [.ref qm, .int 0].toArray below meth c H locs 0 0 (MQ below (va_Qi (fun (r9 : Int32) (u9 : va_W) => r9 = 1 ∧ u9 = []) (mB G A) A) [.ref qm, .int 0].toArray s 0 0 A) (F0 m 51 ls []) := by
          intro n9
          induction n9 with
          | zero => intro k51 f51_0 h9; exact absurd h9 (Nat.not_lt_zero _)
          | succ n9 ih =>
            intro k51 f51_0 h9 hi51 H locs ls hw hl
            refine lv_iload_n C.1 C.2.1 dX11_image_51 rfl (lv_at hl 0 rfl) ?_
            refine lv_bipush (v := 14) C.1 C.2.1 dX11_image_52 (by decide) ?_
            refine lv_icmp_ge (tgt := 80) C.1 C.2.1 dX11_image_54 (by decide) (fun c_54 => ?_) (fun c_54 => ?_)
            · skip
              refine lv_aload_n C.1 C.2.1 dX11_image_80 rfl (lv_at hl 1 rfl) ?_
              refine x_get C hw iwX11 10 rfl 0 rfl 22 (by decide) kw1219 rfl dX11_image_81 ?_
              refine lv_iload_n C.1 C.2.1 dX11_image_84 rfl (lv_at hl 2 rfl) ?_
              refine lv_iconst (v := 1) C.1 C.2.1 dX11_image_85 (by decide) ?_
              refine x_zast (f' := (upd (fun _ => 0) 0 (vp_nar .boolean 1))) (w' := [(qm, .inr (10, [.int 0, .ref mtape, .int 0, .int 0, .int 0, .int 0, .int 0, .int 0, .int 0, .int 0, .int 0, .int 0, .long 0, .int 0, .ref mnow, .ref mread, .ref mkept, .ref msnaps, .ref maside, .ref mname, .ref mreadName, .ref mkeptName, .ref misKept, .ref monces, .int 0, .ref morder, .ref mordered, .int 0, .int 0, .int 0, .int (-1), .int (-1), .ref mtext, .int 0, .int 0, .ref mline, .ref mwritten, .int 0, .int 0, .ref mnode, .int 0, .int 0, .int 0, .int 0])), (mnow, eI G 339 nw0), (mkept, eI G 678 f18_0), (mname, eJ G 14 (fun _ => 0)), (mkeptName, eJ G 28 f51_0), (misKept, eZ G 2 (upd (fun _ => 0) 0 (vp_nar .boolean 1)))]) C hw 5 rfl (x_in rfl) rfl rfl dX11_image_86 (fun H locs hw => ?_)
              refine lv_iconst (v := 1) C.1 C.2.1 dX11_image_87 (by decide) ?_
              have hw := hw.sub (w' := []) [] rfl rfl
              exact x_retz B hw rfl ⟨rfl, rfl⟩ (Nat.le_of_ble_eq_true rfl) (Nat.le_of_ble_eq_true rfl) dX11_image_88
            · skip
              have hk54 : k51 < 14 := x_ltN hi51.2 c_54 (by decide)
              refine lv_aload_n C.1 C.2.1 dX11_image_57 rfl (lv_at hl 1 rfl) ?_
              refine x_get C hw iwX11 10 rfl 0 rfl 21 (by decide) kw1218 rfl dX11_image_58 ?_
              refine lv_bipush (v := 14) C.1 C.2.1 dX11_image_61 (by decide) ?_
              refine lv_iload_n C.1 C.2.1 dX11_image_63 rfl (lv_at hl 2 rfl) ?_
              refine lv_imul C.1 C.2.1 dX11_image_64 ?_
              refine x_topi (z := 0) (by decide) ?_
              refine lv_iload_n C.1 C.2.1 dX11_image_65 rfl (lv_at hl 0 rfl) ?_
              refine lv_iadd C.1 C.2.1 dX11_image_66 ?_
              refine x_topi (z := (nI k51)) (Int32.zero_add _) ?_
              refine lv_aload_n C.1 C.2.1 dX11_image_67 rfl (lv_at hl 1 rfl) ?_
              refine x_get C hw iwX11 10 rfl 0 rfl 19 (by decide) kw1216 rfl dX11_image_68 ?_
              refine lv_iload_n C.1 C.2.1 dX11_image_71 rfl (lv_at hl 0 rfl) ?_
              refine x_lald (v := ((fun _ => 0) (nI k51).toNatClampNeg)) C hw 3 rfl (vp_in_nI (by omega) (by decide)) rfl dX11_image_72 ?_
              refine x_last (f' := (vp_updL f51_0 ((nI k51).toNatClampNeg) ((fun _ => 0) (nI k51).toNatClampNeg))) (w' := [(qm, .inr (10, [.int 0, .ref mtape, .int 0, .int 0, .int 0, .int 0, .int 0, .int 0, .int 0, .int 0, .int 0, .int 0, .long 0, .int 0, .ref mnow, .ref mread, .ref mkept, .ref msnaps, .ref maside, .ref mname, .ref mreadName, .ref mkeptName, .ref misKept, .ref monces, .int 0, .ref morder, .ref mordered, .int 0, .int 0, .int 0, .int (-1), .int (-1), .ref mtext, .int 0, .int 0, .ref mline, .ref mwritten, .int 0, .int 0, .ref mnode, .int 0, .int 0, .int 0, .int 0])), (mnow, eI G 339 nw0), (mkept, eI G 678 f18_0), (mname, eJ G 14 (fun _ => 0)), (mkeptName, eJ G 28 (vp_updL f51_0 ((nI k51).toNatClampNeg) ((fun _ => 0) (nI k51).toNatClampNeg))), (misKept, eZ G 2 (fun _ => 0))]) C hw 4 rfl (vp_in_nI (by omega) (by decide)) rfl rfl dX11_image_73 (fun H locs hw => ?_)
              refine lv_iinc (v := (nI (k51 + 1))) (lv' := [(2, .int (nI (k51 + 1))), (0, .ref qm), (1, .int 0)]) C.1 C.2.1 dX11_image_74 hl (k := 0) rfl (nI_1 k51) (by decide) rfl (fun ls hl => ?_)
              refine lv_goto (tgt := 51) C.1 C.2.1 dX11_image_77 (by decide) ?_
              exact ih (k51 + 1) (vp_updL f51_0 ((nI k51).toNatClampNeg) ((fun _ => 0) (nI k51).toNatClampNeg)) (by omega) (by omega) _ _ _ hw (lv_sub hl [0, 1, 2] rfl)
        exact loop51 _ 0 (fun _ => 0) (Nat.lt_succ_self _) (by decide) _ _ _ hw (lv_sub hl [0, 1, 2] rfl)
      · skip
        have hk22 : k18 < 339 := x_ltN hi18.2 c_22 (by decide)
        refine lv_aload_n C.1 C.2.1 dX11_image_25 rfl (lv_at hl 1 rfl) ?_
        refine x_get C hw iwX11 10 rfl 0 rfl 16 (by decide) kw1213 rfl dX11_image_26 ?_
        refine lv_sipush (v := 339) C.1 C.2.1 dX11_image_29 (by decide) ?_
        refine lv_iload_n C.1 C.2.1 dX11_image_32 rfl (lv_at hl 2 rfl) ?_
        refine lv_imul C.1 C.2.1 dX11_image_33 ?_
        refine x_topi (z := 0) (by decide) ?_
        refine lv_iload_n C.1 C.2.1 dX11_image_34 rfl (lv_at hl 0 rfl) ?_
        refine lv_iadd C.1 C.2.1 dX11_image_35 ?_
        refine x_topi (z := (nI k18)) (Int32.zero_add _) ?_
        refine lv_aload_n C.1 C.2.1 dX11_image_36 rfl (lv_at hl 1 rfl) ?_
        refine x_get C hw iwX11 10 rfl 0 rfl 14 (by decide) kw1211 rfl dX11_image_37 ?_
        refine lv_iload_n C.1 C.2.1 dX11_image_40 rfl (lv_at hl 0 rfl) ?_
        refine x_iald (v := (nw0 (nI k18).toNatClampNeg)) C hw 1 rfl (vp_in_nI (by omega) (by decide)) rfl dX11_image_41 ?_
        refine x_iast (f' := (upd f18_0 ((nI k18).toNatClampNeg) (nw0 (nI k18).toNatClampNeg))) (w' := [(qm, .inr (10, [.int 0, .ref mtape, .int 0, .int 0, .int 0, .int 0, .int 0, .int 0, .int 0, .int 0, .int 0, .int 0, .long 0, .int 0, .ref mnow, .ref mread, .ref mkept, .ref msnaps, .ref maside, .ref mname, .ref mreadName, .ref mkeptName, .ref misKept, .ref monces, .int 0, .ref morder, .ref mordered, .int 0, .int 0, .int 0, .int (-1), .int (-1), .ref mtext, .int 0, .int 0, .ref mline, .ref mwritten, .int 0, .int 0, .ref mnode, .int 0, .int 0, .int 0, .int 0])), (mnow, eI G 339 nw0), (mkept, eI G 678 (upd f18_0 ((nI k18).toNatClampNeg) (nw0 (nI k18).toNatClampNeg))), (mname, eJ G 14 (fun _ => 0)), (mkeptName, eJ G 28 (fun _ => 0)), (misKept, eZ G 2 (fun _ => 0))]) C hw 2 rfl (vp_in_nI (by omega) (by decide)) rfl rfl dX11_image_42 (fun H locs hw => ?_)
        refine lv_iinc (v := (nI (k18 + 1))) (lv' := [(2, .int (nI (k18 + 1))), (0, .ref qm), (1, .int 0)]) C.1 C.2.1 dX11_image_43 hl (k := 0) rfl (nI_1 k18) (by decide) rfl (fun ls hl => ?_)
        refine lv_goto (tgt := 18) C.1 C.2.1 dX11_image_46 (by decide) ?_
        exact ih (k18 + 1) (upd f18_0 ((nI k18).toNatClampNeg) (nw0 (nI k18).toNatClampNeg)) (by omega) (by omega) _ _ _ hw (lv_sub hl [0, 1, 2] rfl)
  exact loop18 _ 0 (fun _ => 0) (Nat.lt_succ_self _) (by decide) _ _ _ hw (lv_sub hl [0, 1, 2] rfl)
set_option maxHeartbeats 4000000 in
set_option maxRecDepth 100000 in
theorem c_X11_image__1 {l : Launch} {G : Gc} (qm : Nat) (mtape : Nat) (mnow : Nat) (mread : Nat) (mkept : Nat) (msnaps : Nat) (maside : Nat) (mname : Nat) (mreadName : Nat) (mkeptName : Nat) (misKept : Nat) (monces : Nat) (morder : Nat) (mordered : Nat) (mtext : Nat) (mline : Nat) (mwritten : Nat) (mnode : Nat)  : Ci l yX11_image cX11_image 3 (some .boolean) 1 0 0 G [.ref qm, .int 1] [(qm, .inr (10, [.int 0, .ref mtape, .int 0, .int 0, .int 0, .int 0, .int 0, .int 0, .int 0, .int 0, .int 0, .int 0, .long 0, .int 0, .ref mnow, .ref mread, .ref mkept, .ref msnaps, .ref maside, .ref mname, .ref mreadName, .ref mkeptName, .ref misKept, .ref monces, .int 0, .ref morder, .ref mordered, .int 0, .int 0, .int 0, .int (-1), .int (-1), .ref mtext, .int 0, .int 0, .ref mline, .ref mwritten, .int 0, .int 0, .ref mnode, .int 0, .int 0, .int 0, .int 0])), (mnow, eI G 339 nw0), (mkept, eI G 678 (fun _ => 0)), (mname, eJ G 14 (fun _ => 0)), (mkeptName, eJ G 28 (fun _ => 0)), (misKept, eZ G 2 (fun _ => 0))] (fun (r9 : Int32) (u9 : va_W) => r9 = 1 ∧ u9 = []) := by
  refine Ci.of (by decide) (Nat.le_of_ble_eq_true rfl) ?_
  intro p e s m below meth c ls A B hw hl
  have C : CallFix p m c cX11_image 3 s _ gw "LanternStateModel" := B.1
  have hl : lv_has ls 3 [(0, .ref qm), (1, .int 1)] := hl
  refine lv_aload_n C.1 C.2.1 dX11_image_0 rfl (lv_at hl 0 rfl) ?_
  refine lv_iconst (v := 0) C.1 C.2.1 dX11_image_1 (by decide) ?_
  refine x_put (w' := [(qm, .inr (10, [.int 0, .ref mtape, .int 0, .int 0, .int 0, .int 0, .int 0, .int 0, .int 0, .int 0, .int 0, .int 0, .long 0, .int 0, .ref mnow, .ref mread, .ref mkept, .ref msnaps, .ref maside, .ref mname, .ref mreadName, .ref mkeptName, .ref misKept, .ref monces, .int 0, .ref morder, .ref mordered, .int 0, .int 0, .int 0, .int (-1), .int (-1), .ref mtext, .int 0, .int 0, .ref mline, .ref mwritten, .int 0, .int 0, .ref mnode, .int 0, .int 0, .int 0, .int 0])), (mnow, eI G 339 nw0), (mkept, eI G 678 (fun _ => 0)), (mname, eJ G 14 (fun _ => 0)), (mkeptName, eJ G 28 (fun _ => 0)), (misKept, eZ G 2 (fun _ => 0))]) C hw iwX11 tyX11_ok nmX11 10 rfl 0 rfl 0 (by decide) kw1197 rfl rfl rfl (Nat.le_of_ble_eq_true rfl) rfl dX11_image_2 (fun H locs hw => ?_)
  refine lv_iload_n C.1 C.2.1 dX11_image_5 rfl (lv_at hl 1 rfl) ?_
  refine lv_iconst (v := 0) C.1 C.2.1 dX11_image_6 (by decide) ?_
  refine lv_iconst (v := 1) C.1 C.2.1 dX11_image_7 (by decide) ?_
  refine x_calliS (As := [.int 1, .int 0, .int 1]) (rest := []) (wr := [(qm, .inr (10, [.int 0, .ref mtape, .int 0, .int 0, .int 0, .int 0, .int 0, .int 0, .int 0, .int 0, .int 0, .int 0, .long 0, .int 0, .ref mnow, .ref mread, .ref mkept, .ref msnaps, .ref maside, .ref mname, .ref mreadName, .ref mkeptName, .ref misKept, .ref monces, .int 0, .ref morder, .ref mordered, .int 0, .int 0, .int 0, .int (-1), .int (-1), .ref mtext, .int 0, .int 0, .ref mline, .ref mwritten, .int 0, .int 0, .ref mnode, .int 0, .int 0, .int 0, .int 0])), (mnow, eI G 339 nw0), (mkept, eI G 678 (fun _ => 0)), (mname, eJ G 14 (fun _ => 0)), (mkeptName, eJ G 28 (fun _ => 0)), (misKept, eZ G 2 (fun _ => 0))]) C hw (c_X11_isInT 1 0 1 (by decide) (by decide)) mwX11_isIn kw1400 [] [0, 1, 2, 3, 4, 5] rfl rfl rfl rfl (by decide) rfl hl.1 rfl (Nat.le_of_ble_eq_true rfl) ⟨(Nat.le_of_ble_eq_true rfl), (Nat.le_of_ble_eq_true rfl)⟩ ⟨(Nat.le_of_ble_eq_true rfl), (Nat.le_of_ble_eq_true rfl)⟩ dX11_image_8 (fun r1 u9 H locs hp9 hw => ?_)
  obtain ⟨rfl, rfl⟩ := hp9
  have hw : Wd G s A [(qm, .inr (10, [.int 0, .ref mtape, .int 0, .int 0, .int 0, .int 0, .int 0, .int 0, .int 0, .int 0, .int 0, .int 0, .long 0, .int 0, .ref mnow, .ref mread, .ref mkept, .ref msnaps, .ref maside, .ref mname, .ref mreadName, .ref mkeptName, .ref misKept, .ref monces, .int 0, .ref morder, .ref mordered, .int 0, .int 0, .int 0, .int (-1), .int (-1), .ref mtext, .int 0, .int 0, .ref mline, .ref mwritten, .int 0, .int 0, .ref mnode, .int 0, .int 0, .int 0, .int 0])), (mnow, eI G 339 nw0), (mkept, eI G 678 (fun _ => 0)), (mname, eJ G 14 (fun _ => 0)), (mkeptName, eJ G 28 (fun _ => 0)), (misKept, eZ G 2 (fun _ => 0))] H _ := hw
  refine lv_if_ne (tgt := 16) C.1 C.2.1 dX11_image_11 (by decide) (fun _ => ?_) (fun h9 => absurd h9 (by decide))
  refine lv_iconst (v := 0) C.1 C.2.1 dX11_image_16 (by decide) ?_
  refine lv_istore_n (lv' := [(2, .int 0), (0, .ref qm), (1, .int 1)]) C.1 C.2.1 dX11_image_17 rfl hl (by decide) rfl (fun ls hl => ?_)
  have loop18 : ∀ (n9 : Nat) (k18 : Nat) (f18_0 : Nat → Int32), 339 - k18 < n9 → 0 ≤ k18 ∧ k18 ≤ 339 → ∀ (H : Heap) (locs : List Loc) (ls : Array Slot), Wd G s A [(qm, .inr (10, [.int 0, .ref mtape, .int 0, .int 0, .int 0, .int 0, .int 0, .int 0, .int 0, .int 0, .int 0, .int 0, .long 0, .int 0, .ref mnow, .ref mread, .ref mkept, .ref msnaps, .ref maside, .ref mname, .ref mreadName, .ref mkeptName, .ref misKept, .ref monces, .int 0, .ref morder, .ref mordered, .int 0, .int 0, .int 0, .int (-1), .int (-1), .ref mtext, .int 0, .int 0, .ref mline, .ref mwritten, .int 0, .int 0, .ref mnode, .int 0, .int 0, .int 0, .int 0])), (mnow, eI G 339 nw0), (mkept, eI G 678 f18_0), (mname, eJ G 14 (fun _ => 0)), (mkeptName, eJ G 28 (fun _ => 0)), (misKept, eZ G 2 (fun _ => 0))] H locs → lv_has ls 3 [(2, .int (nI k18)), (0, .ref qm), (1, .int 1)] → W p l e (rmD 1 0 0) s m [.ref qm, .int 1].toArray below meth c H locs 0 0 (MQ below (va_Qi (fun (r9 : Int32) (u9 : va_W) => r9 = 1 ∧ u9 = []) (mB G A) A) [.ref qm, .int 1].toArray s 0 0 A) (F0 m 18 ls []) := by
    intro n9
    induction n9 with
    | zero => intro k18 f18_0 h9; exact absurd h9 (Nat.not_lt_zero _)
    | succ n9 ih =>
      intro k18 f18_0 h9 hi18 H locs ls hw hl
      refine lv_iload_n C.1 C.2.1 dX11_image_18 rfl (lv_at hl 0 rfl) ?_
      refine lv_sipush (v := 339) C.1 C.2.1 dX11_image_19 (by decide) ?_
      refine lv_icmp_ge (tgt := 49) C.1 C.2.1 dX11_image_22 (by decide) (fun c_22 => ?_) (fun c_22 => ?_)
      · skip
        refine lv_iconst (v := 0) C.1 C.2.1 dX11_image_49 (by decide) ?_
        refine lv_istore_n (lv' := [(2, .int 0), (0, .ref qm), (1, .int 1)]) C.1 C.2.1 dX11_image_50 rfl hl (by decide) rfl (fun ls hl => ?_)
        have loop51 : ∀ (n9 : Nat) (k51 : Nat) (f51_0 : Nat → Int64), 14 - k51 < n9 → 0 ≤ k51 ∧ k51 ≤ 14 → ∀ (H : Heap) (locs : List Loc) (ls : Array Slot), Wd G s A [(qm, .inr (10, [.int 0, .ref mtape, .int 0, .int 0, .int 0, .int 0, .int 0, .int 0, .int 0, .int 0, .int 0, .int 0, .long 0, .int 0, .ref mnow, .ref mread, .ref mkept, .ref msnaps, .ref maside, .ref mname, .ref mreadName, .ref mkeptName, .ref misKept, .ref monces, .int 0, .ref morder, .ref mordered, .int 0, .int 0, .int 0, .int (-1), .int (-1), .ref mtext, .int 0, .int 0, .ref mline, .ref mwritten, .int 0, .int 0, .ref mnode, .int 0, .int 0, .int 0, .int 0])), (mnow, eI G 339 nw0), (mkept, eI G 678 f18_0), (mname, eJ G 14 (fun _ => 0)), (mkeptName, eJ G 28 f51_0), (misKept, eZ G 2 (fun _ => 0))] H locs → lv_has ls 3 [(2, .int (nI k51)), (0, .ref qm), (1, .int 1)] → W p l e (rmD 1 0 0) s m [.ref qm, .int 1].toArray below meth c H locs 0 0 (MQ below (va_Qi (fun (r9 : Int32) (u9 : va_W) => r9 = 1 ∧ u9 = []) (mB G A) A) [.ref qm, .int 1].toArray s 0 0 A) (F0 m 51 ls []) := by
          intro n9
          induction n9 with
          | zero => intro k51 f51_0 h9; exact absurd h9 (Nat.not_lt_zero _)
          | succ n9 ih =>
            intro k51 f51_0 h9 hi51 H locs ls hw hl
            refine lv_iload_n C.1 C.2.1 dX11_image_51 rfl (lv_at hl 0 rfl) ?_
            refine lv_bipush (v := 14) C.1 C.2.1 dX11_image_52 (by decide) ?_
            refine lv_icmp_ge (tgt := 80) C.1 C.2.1 dX11_image_54 (by decide) (fun c_54 => ?_) (fun c_54 => ?_)
            · skip
              refine lv_aload_n C.1 C.2.1 dX11_image_80 rfl (lv_at hl 1 rfl) ?_
              refine x_get C hw iwX11 10 rfl 0 rfl 22 (by decide) kw1219 rfl dX11_image_81 ?_
              refine lv_iload_n C.1 C.2.1 dX11_image_84 rfl (lv_at hl 2 rfl) ?_
              refine lv_iconst (v := 1) C.1 C.2.1 dX11_image_85 (by decide) ?_
              refine x_zast (f' := (upd (fun _ => 0) 1 (vp_nar .boolean 1))) (w' := [(qm, .inr (10, [.int 0, .ref mtape, .int 0, .int 0, .int 0, .int 0, .int 0, .int 0, .int 0, .int 0, .int 0, .int 0, .long 0, .int 0, .ref mnow, .ref mread, .ref mkept, .ref msnaps, .ref maside, .ref mname, .ref mreadName, .ref mkeptName, .ref misKept, .ref monces, .int 0, .ref morder, .ref mordered, .int 0, .int 0, .int 0, .int (-1), .int (-1), .ref mtext, .int 0, .int 0, .ref mline, .ref mwritten, .int 0, .int 0, .ref mnode, .int 0, .int 0, .int 0, .int 0])), (mnow, eI G 339 nw0), (mkept, eI G 678 f18_0), (mname, eJ G 14 (fun _ => 0)), (mkeptName, eJ G 28 f51_0), (misKept, eZ G 2 (upd (fun _ => 0) 1 (vp_nar .boolean 1)))]) C hw 5 rfl (x_in rfl) rfl rfl dX11_image_86 (fun H locs hw => ?_)
              refine lv_iconst (v := 1) C.1 C.2.1 dX11_image_87 (by decide) ?_
              have hw := hw.sub (w' := []) [] rfl rfl
              exact x_retz B hw rfl ⟨rfl, rfl⟩ (Nat.le_of_ble_eq_true rfl) (Nat.le_of_ble_eq_true rfl) dX11_image_88
            · skip
              have hk54 : k51 < 14 := x_ltN hi51.2 c_54 (by decide)
              refine lv_aload_n C.1 C.2.1 dX11_image_57 rfl (lv_at hl 1 rfl) ?_
              refine x_get C hw iwX11 10 rfl 0 rfl 21 (by decide) kw1218 rfl dX11_image_58 ?_
              refine lv_bipush (v := 14) C.1 C.2.1 dX11_image_61 (by decide) ?_
              refine lv_iload_n C.1 C.2.1 dX11_image_63 rfl (lv_at hl 2 rfl) ?_
              refine lv_imul C.1 C.2.1 dX11_image_64 ?_
              refine x_topi (z := 14) (by decide) ?_
              refine lv_iload_n C.1 C.2.1 dX11_image_65 rfl (lv_at hl 0 rfl) ?_
              refine lv_iadd C.1 C.2.1 dX11_image_66 ?_
              refine x_topi (z := (nI (14 + k51))) (nI_add 14 k51) ?_
              refine lv_aload_n C.1 C.2.1 dX11_image_67 rfl (lv_at hl 1 rfl) ?_
              refine x_get C hw iwX11 10 rfl 0 rfl 19 (by decide) kw1216 rfl dX11_image_68 ?_
              refine lv_iload_n C.1 C.2.1 dX11_image_71 rfl (lv_at hl 0 rfl) ?_
              refine x_lald (v := ((fun _ => 0) (nI k51).toNatClampNeg)) C hw 3 rfl (vp_in_nI (by omega) (by decide)) rfl dX11_image_72 ?_
              refine x_last (f' := (vp_updL f51_0 ((nI (14 + k51)).toNatClampNeg) ((fun _ => 0) (nI k51).toNatClampNeg))) (w' := [(qm, .inr (10, [.int 0, .ref mtape, .int 0, .int 0, .int 0, .int 0, .int 0, .int 0, .int 0, .int 0, .int 0, .int 0, .long 0, .int 0, .ref mnow, .ref mread, .ref mkept, .ref msnaps, .ref maside, .ref mname, .ref mreadName, .ref mkeptName, .ref misKept, .ref monces, .int 0, .ref morder, .ref mordered, .int 0, .int 0, .int 0, .int (-1), .int (-1), .ref mtext, .int 0, .int 0, .ref mline, .ref mwritten, .int 0, .int 0, .ref mnode, .int 0, .int 0, .int 0, .int 0])), (mnow, eI G 339 nw0), (mkept, eI G 678 f18_0), (mname, eJ G 14 (fun _ => 0)), (mkeptName, eJ G 28 (vp_updL f51_0 ((nI (14 + k51)).toNatClampNeg) ((fun _ => 0) (nI k51).toNatClampNeg))), (misKept, eZ G 2 (fun _ => 0))]) C hw 4 rfl (vp_in_nI (by omega) (by decide)) rfl rfl dX11_image_73 (fun H locs hw => ?_)
              refine lv_iinc (v := (nI (k51 + 1))) (lv' := [(2, .int (nI (k51 + 1))), (0, .ref qm), (1, .int 1)]) C.1 C.2.1 dX11_image_74 hl (k := 0) rfl (nI_1 k51) (by decide) rfl (fun ls hl => ?_)
              refine lv_goto (tgt := 51) C.1 C.2.1 dX11_image_77 (by decide) ?_
              exact ih (k51 + 1) (vp_updL f51_0 ((nI (14 + k51)).toNatClampNeg) ((fun _ => 0) (nI k51).toNatClampNeg)) (by omega) (by omega) _ _ _ hw (lv_sub hl [0, 1, 2] rfl)
        exact loop51 _ 0 (fun _ => 0) (Nat.lt_succ_self _) (by decide) _ _ _ hw (lv_sub hl [0, 1, 2] rfl)
      · skip
        have hk22 : k18 < 339 := x_ltN hi18.2 c_22 (by decide)
        refine lv_aload_n C.1 C.2.1 dX11_image_25 rfl (lv_at hl 1 rfl) ?_
        refine x_get C hw iwX11 10 rfl 0 rfl 16 (by decide) kw1213 rfl dX11_image_26 ?_
        refine lv_sipush (v := 339) C.1 C.2.1 dX11_image_29 (by decide) ?_
        refine lv_iload_n C.1 C.2.1 dX11_image_32 rfl (lv_at hl 2 rfl) ?_
        refine lv_imul C.1 C.2.1 dX11_image_33 ?_
        refine x_topi (z := 339) (by decide) ?_
        refine lv_iload_n C.1 C.2.1 dX11_image_34 rfl (lv_at hl 0 rfl) ?_
        refine lv_iadd C.1 C.2.1 dX11_image_35 ?_
        refine x_topi (z := (nI (339 + k18))) (nI_add 339 k18) ?_
        refine lv_aload_n C.1 C.2.1 dX11_image_36 rfl (lv_at hl 1 rfl) ?_
        refine x_get C hw iwX11 10 rfl 0 rfl 14 (by decide) kw1211 rfl dX11_image_37 ?_
        refine lv_iload_n C.1 C.2.1 dX11_image_40 rfl (lv_at hl 0 rfl) ?_
        refine x_iald (v := (nw0 (nI k18).toNatClampNeg)) C hw 1 rfl (vp_in_nI (by omega) (by decide)) rfl dX11_image_41 ?_
        refine x_iast (f' := (upd f18_0 ((nI (339 + k18)).toNatClampNeg) (nw0 (nI k18).toNatClampNeg))) (w' := [(qm, .inr (10, [.int 0, .ref mtape, .int 0, .int 0, .int 0, .int 0, .int 0, .int 0, .int 0, .int 0, .int 0, .int 0, .long 0, .int 0, .ref mnow, .ref mread, .ref mkept, .ref msnaps, .ref maside, .ref mname, .ref mreadName, .ref mkeptName, .ref misKept, .ref monces, .int 0, .ref morder, .ref mordered, .int 0, .int 0, .int 0, .int (-1), .int (-1), .ref mtext, .int 0, .int 0, .ref mline, .ref mwritten, .int 0, .int 0, .ref mnode, .int 0, .int 0, .int 0, .int 0])), (mnow, eI G 339 nw0), (mkept, eI G 678 (upd f18_0 ((nI (339 + k18)).toNatClampNeg) (nw0 (nI k18).toNatClampNeg))), (mname, eJ G 14 (fun _ => 0)), (mkeptName, eJ G 28 (fun _ => 0)), (misKept, eZ G 2 (fun _ => 0))]) C hw 2 rfl (vp_in_nI (by omega) (by decide)) rfl rfl dX11_image_42 (fun H locs hw => ?_)
        refine lv_iinc (v := (nI (k18 + 1))) (lv' := [(2, .int (nI (k18 + 1))), (0, .ref qm), (1, .int 1)]) C.1 C.2.1 dX11_image_43 hl (k := 0) rfl (nI_1 k18) (by decide) rfl (fun ls hl => ?_)
        refine lv_goto (tgt := 18) C.1 C.2.1 dX11_image_46 (by decide) ?_
        exact ih (k18 + 1) (upd f18_0 ((nI (339 + k18)).toNatClampNeg) (nw0 (nI k18).toNatClampNeg)) (by omega) (by omega) _ _ _ hw (lv_sub hl [0, 1, 2] rfl)
  exact loop18 _ 0 (fun _ => 0) (Nat.lt_succ_self _) (by decide) _ _ _ hw (lv_sub hl [0, 1, 2] rfl)
