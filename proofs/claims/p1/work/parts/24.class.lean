theorem dX10_isSlide_0 : decode cX10_isSlide 0 = .ok (.iload_n 1, 1) := by decide +kernel
theorem dX10_isSlide_1 : decode cX10_isSlide 1 = .ok (.ifCond .lt 18, 3) := by decide +kernel
theorem dX10_isSlide_19 : decode cX10_isSlide 19 = .ok (.iconst 0, 1) := by decide +kernel
theorem dX10_isSlide_20 : decode cX10_isSlide 20 = .ok (.ireturn, 1) := by decide +kernel
theorem dX10_isSlide_4 : decode cX10_isSlide 4 = .ok (.iload_n 1, 1) := by decide +kernel
theorem dX10_isSlide_5 : decode cX10_isSlide 5 = .ok (.aload_n 0, 1) := by decide +kernel
theorem dX10_isSlide_6 : decode cX10_isSlide 6 = .ok (.getfield 19, 3) := by decide +kernel
theorem dX10_isSlide_9 : decode cX10_isSlide 9 = .ok (.getfield 284, 3) := by decide +kernel
theorem dX10_isSlide_12 : decode cX10_isSlide 12 = .ok (.if_icmp .ge 7, 3) := by decide +kernel
set_option maxHeartbeats 4000000 in
set_option maxRecDepth 100000 in
theorem c_X10_isSlide {l : Launch} {G : Gc} (qx : Nat) (s9 : Int32) (qt : Nat) (qs : Nat) (qd : Nat) (qa : Nat) (qb : Nat) (qh : Nat) (qr : Nat) (qe : Nat) (qp : Nat) (qf : Nat) (qn : Nat) (qi : Nat) (qo : Nat) (sslideNames : Nat) (spictures : Nat) (sheats : Nat) (safter : Nat) (shearerNames : Nat) (sneeds : Nat) (slikes : Nat) (shates : Nat) (snear : Nat)  : Ci l yX10_isSlide cX10_isSlide 2 (some .boolean) 0 0 0 G [.ref qx, .int s9] [(qx, .inr (9, [.ref qt, .ref qs, .ref qd, .ref qa, .ref qb, .ref qh, .ref qr, .ref qe, .ref qp, .ref qf, .ref qn, .ref qi, .ref qo, .int 0, .int 0, .int (-1), .int (-1)])), (qs, .inr (4, [.int 0, .int 0, .int 0, .int 0, .int 1, .int 0, .int 40, .int 0, .int 0, .ref sslideNames, .ref spictures, .ref sheats, .ref safter, .ref shearerNames, .ref sneeds, .ref slikes, .ref shates, .ref snear]))] (fun (r9 : Int32) (u9 : va_W) => r9 = 0 ∧ u9 = [(qx, .inr (9, [.ref qt, .ref qs, .ref qd, .ref qa, .ref qb, .ref qh, .ref qr, .ref qe, .ref qp, .ref qf, .ref qn, .ref qi, .ref qo, .int 0, .int 0, .int (-1), .int (-1)])), (qs, .inr (4, [.int 0, .int 0, .int 0, .int 0, .int 1, .int 0, .int 40, .int 0, .int 0, .ref sslideNames, .ref spictures, .ref sheats, .ref safter, .ref shearerNames, .ref sneeds, .ref slikes, .ref shates, .ref snear]))]) := by
  refine Ci.of (by decide) (Nat.le_of_ble_eq_true rfl) ?_
  intro p e s m below meth c ls A B hw hl
  have C : CallFix p m c cX10_isSlide 2 s _ gw "LanternState" := B.1
  have hl : lv_has ls 2 [(0, .ref qx), (1, .int s9)] := hl
  refine lv_iload_n C.1 C.2.1 dX10_isSlide_0 rfl (lv_at hl 1 rfl) ?_
  refine lv_if_lt (tgt := 19) C.1 C.2.1 dX10_isSlide_1 (by decide) (fun c_1 => ?_) (fun c_1 => ?_)
  · skip
    refine lv_iconst (v := 0) C.1 C.2.1 dX10_isSlide_19 (by decide) ?_
    exact x_retz B hw rfl ⟨rfl, rfl⟩ (Nat.le_of_ble_eq_true rfl) (Nat.le_of_ble_eq_true rfl) dX10_isSlide_20
  · skip
    refine lv_iload_n C.1 C.2.1 dX10_isSlide_4 rfl (lv_at hl 1 rfl) ?_
    refine lv_aload_n C.1 C.2.1 dX10_isSlide_5 rfl (lv_at hl 0 rfl) ?_
    refine x_get C hw iwX10 9 rfl 0 rfl 1 (by decide) kw447 rfl dX10_isSlide_6 ?_
    refine x_get C hw iwX5 4 rfl 1 rfl 0 (by decide) kw151 rfl dX10_isSlide_9 ?_
    refine lv_icmp_ge (tgt := 19) C.1 C.2.1 dX10_isSlide_12 (by decide) (fun _ => ?_) (fun h9 => absurd (Int32.not_lt.mp c_1) h9)
    refine lv_iconst (v := 0) C.1 C.2.1 dX10_isSlide_19 (by decide) ?_
    exact x_retz B hw rfl ⟨rfl, rfl⟩ (Nat.le_of_ble_eq_true rfl) (Nat.le_of_ble_eq_true rfl) dX10_isSlide_20
theorem dX10_isHearer_0 : decode cX10_isHearer 0 = .ok (.iload_n 1, 1) := by decide +kernel
theorem dX10_isHearer_1 : decode cX10_isHearer 1 = .ok (.ifCond .lt 18, 3) := by decide +kernel
theorem dX10_isHearer_19 : decode cX10_isHearer 19 = .ok (.iconst 0, 1) := by decide +kernel
theorem dX10_isHearer_20 : decode cX10_isHearer 20 = .ok (.ireturn, 1) := by decide +kernel
theorem dX10_isHearer_4 : decode cX10_isHearer 4 = .ok (.iload_n 1, 1) := by decide +kernel
theorem dX10_isHearer_5 : decode cX10_isHearer 5 = .ok (.aload_n 0, 1) := by decide +kernel
theorem dX10_isHearer_6 : decode cX10_isHearer 6 = .ok (.getfield 19, 3) := by decide +kernel
theorem dX10_isHearer_9 : decode cX10_isHearer 9 = .ok (.getfield 258, 3) := by decide +kernel
theorem dX10_isHearer_12 : decode cX10_isHearer 12 = .ok (.if_icmp .ge 7, 3) := by decide +kernel
set_option maxHeartbeats 4000000 in
set_option maxRecDepth 100000 in
theorem c_X10_isHearer {l : Launch} {G : Gc} (qx : Nat) (s9 : Int32) (qt : Nat) (qs : Nat) (qd : Nat) (qa : Nat) (qb : Nat) (qh : Nat) (qr : Nat) (qe : Nat) (qp : Nat) (qf : Nat) (qn : Nat) (qi : Nat) (qo : Nat) (sslideNames : Nat) (spictures : Nat) (sheats : Nat) (safter : Nat) (shearerNames : Nat) (sneeds : Nat) (slikes : Nat) (shates : Nat) (snear : Nat)  : Ci l yX10_isHearer cX10_isHearer 2 (some .boolean) 0 0 0 G [.ref qx, .int s9] [(qx, .inr (9, [.ref qt, .ref qs, .ref qd, .ref qa, .ref qb, .ref qh, .ref qr, .ref qe, .ref qp, .ref qf, .ref qn, .ref qi, .ref qo, .int 0, .int 0, .int (-1), .int (-1)])), (qs, .inr (4, [.int 0, .int 0, .int 0, .int 0, .int 1, .int 0, .int 40, .int 0, .int 0, .ref sslideNames, .ref spictures, .ref sheats, .ref safter, .ref shearerNames, .ref sneeds, .ref slikes, .ref shates, .ref snear]))] (fun (r9 : Int32) (u9 : va_W) => r9 = 0 ∧ u9 = [(qx, .inr (9, [.ref qt, .ref qs, .ref qd, .ref qa, .ref qb, .ref qh, .ref qr, .ref qe, .ref qp, .ref qf, .ref qn, .ref qi, .ref qo, .int 0, .int 0, .int (-1), .int (-1)])), (qs, .inr (4, [.int 0, .int 0, .int 0, .int 0, .int 1, .int 0, .int 40, .int 0, .int 0, .ref sslideNames, .ref spictures, .ref sheats, .ref safter, .ref shearerNames, .ref sneeds, .ref slikes, .ref shates, .ref snear]))]) := by
  refine Ci.of (by decide) (Nat.le_of_ble_eq_true rfl) ?_
  intro p e s m below meth c ls A B hw hl
  have C : CallFix p m c cX10_isHearer 2 s _ gw "LanternState" := B.1
  have hl : lv_has ls 2 [(0, .ref qx), (1, .int s9)] := hl
  refine lv_iload_n C.1 C.2.1 dX10_isHearer_0 rfl (lv_at hl 1 rfl) ?_
  refine lv_if_lt (tgt := 19) C.1 C.2.1 dX10_isHearer_1 (by decide) (fun c_1 => ?_) (fun c_1 => ?_)
  · skip
    refine lv_iconst (v := 0) C.1 C.2.1 dX10_isHearer_19 (by decide) ?_
    exact x_retz B hw rfl ⟨rfl, rfl⟩ (Nat.le_of_ble_eq_true rfl) (Nat.le_of_ble_eq_true rfl) dX10_isHearer_20
  · skip
    refine lv_iload_n C.1 C.2.1 dX10_isHearer_4 rfl (lv_at hl 1 rfl) ?_
    refine lv_aload_n C.1 C.2.1 dX10_isHearer_5 rfl (lv_at hl 0 rfl) ?_
    refine x_get C hw iwX10 9 rfl 0 rfl 1 (by decide) kw447 rfl dX10_isHearer_6 ?_
    refine x_get C hw iwX5 4 rfl 1 rfl 1 (by decide) kw155 rfl dX10_isHearer_9 ?_
    refine lv_icmp_ge (tgt := 19) C.1 C.2.1 dX10_isHearer_12 (by decide) (fun _ => ?_) (fun h9 => absurd (Int32.not_lt.mp c_1) h9)
    refine lv_iconst (v := 0) C.1 C.2.1 dX10_isHearer_19 (by decide) ?_
    exact x_retz B hw rfl ⟨rfl, rfl⟩ (Nat.le_of_ble_eq_true rfl) (Nat.le_of_ble_eq_true rfl) dX10_isHearer_20
theorem dX10_feed_0 : decode cX10_feed 0 = .ok (.aload_n 0, 1) := by decide +kernel
theorem dX10_feed_1 : decode cX10_feed 1 = .ok (.getfield 10, 3) := by decide +kernel
theorem dX10_feed_4 : decode cX10_feed 4 = .ok (.getfield 92, 3) := by decide +kernel
theorem dX10_feed_7 : decode cX10_feed 7 = .ok (.bipush 20, 2) := by decide +kernel
theorem dX10_feed_9 : decode cX10_feed 9 = .ok (.iadd, 1) := by decide +kernel
theorem dX10_feed_10 : decode cX10_feed 10 = .ok (.sipush 940, 3) := by decide +kernel
theorem dX10_feed_13 : decode cX10_feed 13 = .ok (.if_icmp .le 5, 3) := by decide +kernel
theorem dX10_feed_18 : decode cX10_feed 18 = .ok (.aload_n 0, 1) := by decide +kernel
theorem dX10_feed_19 : decode cX10_feed 19 = .ok (.getfield 10, 3) := by decide +kernel
theorem dX10_feed_22 : decode cX10_feed 22 = .ok (.iload_n 1, 1) := by decide +kernel
theorem dX10_feed_23 : decode cX10_feed 23 = .ok (.invokevirtual 95, 3) := by decide +kernel
theorem mwX9_put : MwV yX9_put cX9_put 3 none 1 := ⟨⟨kw505, kw2, by decide +kernel⟩, kw503, kw504⟩
theorem dX10_feed_26 : decode cX10_feed 26 = .ok (.aload_n 0, 1) := by decide +kernel
theorem dX10_feed_27 : decode cX10_feed 27 = .ok (.getfield 10, 3) := by decide +kernel
theorem dX10_feed_30 : decode cX10_feed 30 = .ok (.iload_n 2, 1) := by decide +kernel
theorem dX10_feed_31 : decode cX10_feed 31 = .ok (.invokevirtual 95, 3) := by decide +kernel
theorem dX10_feed_34 : decode cX10_feed 34 = .ok (.aload_n 0, 1) := by decide +kernel
theorem dX10_feed_35 : decode cX10_feed 35 = .ok (.getfield 10, 3) := by decide +kernel
theorem dX10_feed_38 : decode cX10_feed 38 = .ok (.iload_n 3, 1) := by decide +kernel
theorem dX10_feed_39 : decode cX10_feed 39 = .ok (.invokevirtual 95, 3) := by decide +kernel
theorem dX10_feed_42 : decode cX10_feed 42 = .ok (.aload_n 0, 1) := by decide +kernel
theorem dX10_feed_43 : decode cX10_feed 43 = .ok (.getfield 10, 3) := by decide +kernel
theorem dX10_feed_46 : decode cX10_feed 46 = .ok (.iload 4, 2) := by decide +kernel
theorem dX10_feed_48 : decode cX10_feed 48 = .ok (.invokevirtual 95, 3) := by decide +kernel
theorem dX10_feed_51 : decode cX10_feed 51 = .ok (.aload_n 0, 1) := by decide +kernel
theorem dX10_feed_52 : decode cX10_feed 52 = .ok (.getfield 10, 3) := by decide +kernel
theorem dX10_feed_55 : decode cX10_feed 55 = .ok (.iload 5, 2) := by decide +kernel
theorem dX10_feed_57 : decode cX10_feed 57 = .ok (.invokevirtual 95, 3) := by decide +kernel
theorem dX10_feed_60 : decode cX10_feed 60 = .ok (.aload_n 0, 1) := by decide +kernel
theorem dX10_feed_61 : decode cX10_feed 61 = .ok (.getfield 10, 3) := by decide +kernel
theorem dX10_feed_64 : decode cX10_feed 64 = .ok (.getfield 92, 3) := by decide +kernel
theorem dX10_feed_67 : decode cX10_feed 67 = .ok (.ireturn, 1) := by decide +kernel
set_option maxHeartbeats 4000000 in
set_option maxRecDepth 100000 in
theorem c_X10_feed {l : Launch} {G : Gc} (qx : Nat) (a1 : Int32) (a2 : Int32) (a3 : Int32) (a4 : Int32) (a5 : Int32) (qt : Nat) (qs : Nat) (qd : Nat) (qa : Nat) (qb : Nat) (qh : Nat) (qr : Nat) (qe : Nat) (qp : Nat) (qf : Nat) (qn : Nat) (qi : Nat) (qo : Nat) (kc : Nat) (bys : Nat)  : Ci l yX10_feed cX10_feed 6 (some .int) 1 0 0 G [.ref qx, .int a1, .int a2, .int a3, .int a4, .int a5] [(qx, .inr (9, [.ref qt, .ref qs, .ref qd, .ref qa, .ref qb, .ref qh, .ref qr, .ref qe, .ref qp, .ref qf, .ref qn, .ref qi, .ref qo, .int 0, .int 0, .int (-1), .int (-1)])), (qt, .inr (8, [.ref kc, .ref bys, .int 0, .int 0, .int 0, .int 0, .int 0, .int 0, .long 0, .int 0, .int 0, .int 0])), (bys, eB G 940 (fun _ => 0))] (fun (r9 : Int32) (u9 : va_W) => ∃ (gb : Nat → Int32), r9 = 20 ∧ u9 = [(qx, .inr (9, [.ref qt, .ref qs, .ref qd, .ref qa, .ref qb, .ref qh, .ref qr, .ref qe, .ref qp, .ref qf, .ref qn, .ref qi, .ref qo, .int 0, .int 0, .int (-1), .int (-1)])), (qt, .inr (8, [.ref kc, .ref bys, .int 20, .int 0, .int 0, .int 0, .int 0, .int 0, .long 0, .int 0, .int 0, .int 0])), (bys, eB G 940 gb)]) := by
  refine Ci.of (by decide) (Nat.le_of_ble_eq_true rfl) ?_
  intro p e s m below meth c ls A B hw hl
  have C : CallFix p m c cX10_feed 6 s _ gw "LanternState" := B.1
  have hl : lv_has ls 6 [(0, .ref qx), (1, .int a1), (2, .int a2), (3, .int a3), (4, .int a4), (5, .int a5)] := hl
  refine lv_aload_n C.1 C.2.1 dX10_feed_0 rfl (lv_at hl 0 rfl) ?_
  refine x_get C hw iwX10 9 rfl 0 rfl 0 (by decide) kw446 rfl dX10_feed_1 ?_
  refine x_get C hw iwX9 8 rfl 1 rfl 2 (by decide) kw90 rfl dX10_feed_4 ?_
  refine lv_bipush (v := 20) C.1 C.2.1 dX10_feed_7 (by decide) ?_
  refine lv_iadd C.1 C.2.1 dX10_feed_9 ?_
  refine x_topi (z := 20) (by decide) ?_
  refine lv_sipush (v := 940) C.1 C.2.1 dX10_feed_10 (by decide) ?_
  refine lv_icmp_le (tgt := 18) C.1 C.2.1 dX10_feed_13 (by decide) (fun _ => ?_) (fun h9 => absurd (by decide) h9)
  refine lv_aload_n C.1 C.2.1 dX10_feed_18 rfl (lv_at hl 0 rfl) ?_
  refine x_get C hw iwX10 9 rfl 0 rfl 0 (by decide) kw446 rfl dX10_feed_19 ?_
  refine lv_iload_n C.1 C.2.1 dX10_feed_22 rfl (lv_at hl 1 rfl) ?_
  refine x_callvV (As := [.int a1]) (rest := []) (wr := [(qx, .inr (9, [.ref qt, .ref qs, .ref qd, .ref qa, .ref qb, .ref qh, .ref qr, .ref qe, .ref qp, .ref qf, .ref qn, .ref qi, .ref qo, .int 0, .int 0, .int (-1), .int (-1)]))]) C hw (c_X9_put0 qt a1 kc bys 0 0 0 0 0 0 0 0 0 (fun _ => 0)) mwX9_put kw502 [1, 2] [0] rfl rfl rfl rfl (by decide) 0 rfl rfl rfl rfl hl.1 rfl (Nat.le_of_ble_eq_true rfl) ⟨(Nat.le_of_ble_eq_true rfl), (Nat.le_of_ble_eq_true rfl)⟩ ⟨(Nat.le_of_ble_eq_true rfl), (Nat.le_of_ble_eq_true rfl)⟩ dX10_feed_23 (fun  u9 H locs hp9 hw => ?_)
  obtain ⟨gb_1, rfl⟩ := hp9
  have hw : Wd G s A [(qx, .inr (9, [.ref qt, .ref qs, .ref qd, .ref qa, .ref qb, .ref qh, .ref qr, .ref qe, .ref qp, .ref qf, .ref qn, .ref qi, .ref qo, .int 0, .int 0, .int (-1), .int (-1)])), (qt, .inr (8, [.ref kc, .ref bys, .int 4, .int 0, .int 0, .int 0, .int 0, .int 0, .long 0, .int 0, .int 0, .int 0])), (bys, eB G 940 gb_1)] H _ := hw
  refine lv_aload_n C.1 C.2.1 dX10_feed_26 rfl (lv_at hl 0 rfl) ?_
  refine x_get C hw iwX10 9 rfl 0 rfl 0 (by decide) kw446 rfl dX10_feed_27 ?_
  refine lv_iload_n C.1 C.2.1 dX10_feed_30 rfl (lv_at hl 2 rfl) ?_
  refine x_callvV (As := [.int a2]) (rest := []) (wr := [(qx, .inr (9, [.ref qt, .ref qs, .ref qd, .ref qa, .ref qb, .ref qh, .ref qr, .ref qe, .ref qp, .ref qf, .ref qn, .ref qi, .ref qo, .int 0, .int 0, .int (-1), .int (-1)]))]) C hw (c_X9_put4 qt a2 kc bys 0 0 0 0 0 0 0 0 0 gb_1) mwX9_put kw502 [1, 2] [0] rfl rfl rfl rfl (by decide) 0 rfl rfl rfl rfl hl.1 rfl (Nat.le_of_ble_eq_true rfl) ⟨(Nat.le_of_ble_eq_true rfl), (Nat.le_of_ble_eq_true rfl)⟩ ⟨(Nat.le_of_ble_eq_true rfl), (Nat.le_of_ble_eq_true rfl)⟩ dX10_feed_31 (fun  u9 H locs hp9 hw => ?_)
  obtain ⟨gb_2, rfl⟩ := hp9
  have hw : Wd G s A [(qx, .inr (9, [.ref qt, .ref qs, .ref qd, .ref qa, .ref qb, .ref qh, .ref qr, .ref qe, .ref qp, .ref qf, .ref qn, .ref qi, .ref qo, .int 0, .int 0, .int (-1), .int (-1)])), (qt, .inr (8, [.ref kc, .ref bys, .int 8, .int 0, .int 0, .int 0, .int 0, .int 0, .long 0, .int 0, .int 0, .int 0])), (bys, eB G 940 gb_2)] H _ := hw
  refine lv_aload_n C.1 C.2.1 dX10_feed_34 rfl (lv_at hl 0 rfl) ?_
  refine x_get C hw iwX10 9 rfl 0 rfl 0 (by decide) kw446 rfl dX10_feed_35 ?_
  refine lv_iload_n C.1 C.2.1 dX10_feed_38 rfl (lv_at hl 3 rfl) ?_
  refine x_callvV (As := [.int a3]) (rest := []) (wr := [(qx, .inr (9, [.ref qt, .ref qs, .ref qd, .ref qa, .ref qb, .ref qh, .ref qr, .ref qe, .ref qp, .ref qf, .ref qn, .ref qi, .ref qo, .int 0, .int 0, .int (-1), .int (-1)]))]) C hw (c_X9_put8 qt a3 kc bys 0 0 0 0 0 0 0 0 0 gb_2) mwX9_put kw502 [1, 2] [0] rfl rfl rfl rfl (by decide) 0 rfl rfl rfl rfl hl.1 rfl (Nat.le_of_ble_eq_true rfl) ⟨(Nat.le_of_ble_eq_true rfl), (Nat.le_of_ble_eq_true rfl)⟩ ⟨(Nat.le_of_ble_eq_true rfl), (Nat.le_of_ble_eq_true rfl)⟩ dX10_feed_39 (fun  u9 H locs hp9 hw => ?_)
  obtain ⟨gb_3, rfl⟩ := hp9
  have hw : Wd G s A [(qx, .inr (9, [.ref qt, .ref qs, .ref qd, .ref qa, .ref qb, .ref qh, .ref qr, .ref qe, .ref qp, .ref qf, .ref qn, .ref qi, .ref qo, .int 0, .int 0, .int (-1), .int (-1)])), (qt, .inr (8, [.ref kc, .ref bys, .int 12, .int 0, .int 0, .int 0, .int 0, .int 0, .long 0, .int 0, .int 0, .int 0])), (bys, eB G 940 gb_3)] H _ := hw
  refine lv_aload_n C.1 C.2.1 dX10_feed_42 rfl (lv_at hl 0 rfl) ?_
  refine x_get C hw iwX10 9 rfl 0 rfl 0 (by decide) kw446 rfl dX10_feed_43 ?_
  refine lv_iload C.1 C.2.1 dX10_feed_46 (lv_at hl 4 rfl) ?_
  refine x_callvV (As := [.int a4]) (rest := []) (wr := [(qx, .inr (9, [.ref qt, .ref qs, .ref qd, .ref qa, .ref qb, .ref qh, .ref qr, .ref qe, .ref qp, .ref qf, .ref qn, .ref qi, .ref qo, .int 0, .int 0, .int (-1), .int (-1)]))]) C hw (c_X9_put12 qt a4 kc bys 0 0 0 0 0 0 0 0 0 gb_3) mwX9_put kw502 [1, 2] [0] rfl rfl rfl rfl (by decide) 0 rfl rfl rfl rfl hl.1 rfl (Nat.le_of_ble_eq_true rfl) ⟨(Nat.le_of_ble_eq_true rfl), (Nat.le_of_ble_eq_true rfl)⟩ ⟨(Nat.le_of_ble_eq_true rfl), (Nat.le_of_ble_eq_true rfl)⟩ dX10_feed_48 (fun  u9 H locs hp9 hw => ?_)
  obtain ⟨gb_4, rfl⟩ := hp9
  have hw : Wd G s A [(qx, .inr (9, [.ref qt, .ref qs, .ref qd, .ref qa, .ref qb, .ref qh, .ref qr, .ref qe, .ref qp, .ref qf, .ref qn, .ref qi, .ref qo, .int 0, .int 0, .int (-1), .int (-1)])), (qt, .inr (8, [.ref kc, .ref bys, .int 16, .int 0, .int 0, .int 0, .int 0, .int 0, .long 0, .int 0, .int 0, .int 0])), (bys, eB G 940 gb_4)] H _ := hw
  refine lv_aload_n C.1 C.2.1 dX10_feed_51 rfl (lv_at hl 0 rfl) ?_
  refine x_get C hw iwX10 9 rfl 0 rfl 0 (by decide) kw446 rfl dX10_feed_52 ?_
  refine lv_iload C.1 C.2.1 dX10_feed_55 (lv_at hl 5 rfl) ?_
  refine x_callvV (As := [.int a5]) (rest := []) (wr := [(qx, .inr (9, [.ref qt, .ref qs, .ref qd, .ref qa, .ref qb, .ref qh, .ref qr, .ref qe, .ref qp, .ref qf, .ref qn, .ref qi, .ref qo, .int 0, .int 0, .int (-1), .int (-1)]))]) C hw (c_X9_put16 qt a5 kc bys 0 0 0 0 0 0 0 0 0 gb_4) mwX9_put kw502 [1, 2] [0] rfl rfl rfl rfl (by decide) 0 rfl rfl rfl rfl hl.1 rfl (Nat.le_of_ble_eq_true rfl) ⟨(Nat.le_of_ble_eq_true rfl), (Nat.le_of_ble_eq_true rfl)⟩ ⟨(Nat.le_of_ble_eq_true rfl), (Nat.le_of_ble_eq_true rfl)⟩ dX10_feed_57 (fun  u9 H locs hp9 hw => ?_)
  obtain ⟨gb_5, rfl⟩ := hp9
  have hw : Wd G s A [(qx, .inr (9, [.ref qt, .ref qs, .ref qd, .ref qa, .ref qb, .ref qh, .ref qr, .ref qe, .ref qp, .ref qf, .ref qn, .ref qi, .ref qo, .int 0, .int 0, .int (-1), .int (-1)])), (qt, .inr (8, [.ref kc, .ref bys, .int 20, .int 0, .int 0, .int 0, .int 0, .int 0, .long 0, .int 0, .int 0, .int 0])), (bys, eB G 940 gb_5)] H _ := hw
  refine lv_aload_n C.1 C.2.1 dX10_feed_60 rfl (lv_at hl 0 rfl) ?_
  refine x_get C hw iwX10 9 rfl 0 rfl 0 (by decide) kw446 rfl dX10_feed_61 ?_
  refine x_get C hw iwX9 8 rfl 1 rfl 2 (by decide) kw90 rfl dX10_feed_64 ?_
  exact x_reti B hw ⟨gb_5, rfl, rfl⟩ (Nat.le_of_ble_eq_true rfl) (Nat.le_of_ble_eq_true rfl) dX10_feed_67
theorem dX10_end_0 : decode cX10_end 0 = .ok (.iload_n 1, 1) := by decide +kernel
theorem dX10_end_1 : decode cX10_end 1 = .ok (.ifCond .lt 14, 3) := by decide +kernel
theorem dX10_end_4 : decode cX10_end 4 = .ok (.iload_n 1, 1) := by decide +kernel
theorem dX10_end_5 : decode cX10_end 5 = .ok (.aload_n 0, 1) := by decide +kernel
theorem dX10_end_6 : decode cX10_end 6 = .ok (.getfield 10, 3) := by decide +kernel
theorem dX10_end_9 : decode cX10_end 9 = .ok (.getfield 92, 3) := by decide +kernel
theorem dX10_end_12 : decode cX10_end 12 = .ok (.if_icmp .le 5, 3) := by decide +kernel
theorem dX10_end_17 : decode cX10_end 17 = .ok (.aload_n 0, 1) := by decide +kernel
theorem dX10_end_18 : decode cX10_end 18 = .ok (.getfield 10, 3) := by decide +kernel
theorem dX10_end_21 : decode cX10_end 21 = .ok (.iload_n 1, 1) := by decide +kernel
theorem dX10_end_22 : decode cX10_end 22 = .ok (.putfield 92, 3) := by decide +kernel
theorem dX10_end_25 : decode cX10_end 25 = .ok (.iconst 1, 1) := by decide +kernel
theorem dX10_end_26 : decode cX10_end 26 = .ok (.ireturn, 1) := by decide +kernel
set_option maxHeartbeats 4000000 in
set_option maxRecDepth 100000 in
theorem c_X10_end__0 {l : Launch} {G : Gc} (qx : Nat) (qt : Nat) (qs : Nat) (qd : Nat) (qa : Nat) (qb : Nat) (qh : Nat) (qr : Nat) (qe : Nat) (qp : Nat) (qf : Nat) (qn : Nat) (qi : Nat) (qo : Nat) (kc : Nat) (bys : Nat)  : Ci l yX10_end cX10_end 2 (some .boolean) 0 0 0 G [.ref qx, .int 0] [(qx, .inr (9, [.ref qt, .ref qs, .ref qd, .ref qa, .ref qb, .ref qh, .ref qr, .ref qe, .ref qp, .ref qf, .ref qn, .ref qi, .ref qo, .int 0, .int 0, .int (-1), .int (-1)])), (qt, .inr (8, [.ref kc, .ref bys, .int 0, .int 0, .int 0, .int 0, .int 0, .int 0, .long 0, .int 0, .int 0, .int 0]))] (fun (r9 : Int32) (u9 : va_W) => r9 = 1 ∧ u9 = [(qx, .inr (9, [.ref qt, .ref qs, .ref qd, .ref qa, .ref qb, .ref qh, .ref qr, .ref qe, .ref qp, .ref qf, .ref qn, .ref qi, .ref qo, .int 0, .int 0, .int (-1), .int (-1)])), (qt, .inr (8, [.ref kc, .ref bys, .int 0, .int 0, .int 0, .int 0, .int 0, .int 0, .long 0, .int 0, .int 0, .int 0]))]) := by
  refine Ci.of (by decide) (Nat.le_of_ble_eq_true rfl) ?_
  intro p e s m below meth c ls A B hw hl
  have C : CallFix p m c cX10_end 2 s _ gw "LanternState" := B.1
  have hl : lv_has ls 2 [(0, .ref qx), (1, .int 0)] := hl
  refine lv_iload_n C.1 C.2.1 dX10_end_0 rfl (lv_at hl 1 rfl) ?_
  refine lv_if_lt (tgt := 15) C.1 C.2.1 dX10_end_1 (by decide) (fun h9 => absurd h9 (by decide)) (fun _ => ?_)
  refine lv_iload_n C.1 C.2.1 dX10_end_4 rfl (lv_at hl 1 rfl) ?_
  refine lv_aload_n C.1 C.2.1 dX10_end_5 rfl (lv_at hl 0 rfl) ?_
  refine x_get C hw iwX10 9 rfl 0 rfl 0 (by decide) kw446 rfl dX10_end_6 ?_
  refine x_get C hw iwX9 8 rfl 1 rfl 2 (by decide) kw90 rfl dX10_end_9 ?_
  refine lv_icmp_le (tgt := 17) C.1 C.2.1 dX10_end_12 (by decide) (fun _ => ?_) (fun h9 => absurd (by decide) h9)
  refine lv_aload_n C.1 C.2.1 dX10_end_17 rfl (lv_at hl 0 rfl) ?_
  refine x_get C hw iwX10 9 rfl 0 rfl 0 (by decide) kw446 rfl dX10_end_18 ?_
  refine lv_iload_n C.1 C.2.1 dX10_end_21 rfl (lv_at hl 1 rfl) ?_
  refine x_put (w' := [(qx, .inr (9, [.ref qt, .ref qs, .ref qd, .ref qa, .ref qb, .ref qh, .ref qr, .ref qe, .ref qp, .ref qf, .ref qn, .ref qi, .ref qo, .int 0, .int 0, .int (-1), .int (-1)])), (qt, .inr (8, [.ref kc, .ref bys, .int 0, .int 0, .int 0, .int 0, .int 0, .int 0, .long 0, .int 0, .int 0, .int 0]))]) C hw iwX9 tyX9_ok nmX9 8 rfl 1 rfl 2 (by decide) kw90 rfl rfl rfl (Nat.le_of_ble_eq_true rfl) rfl dX10_end_22 (fun H locs hw => ?_)
  refine lv_iconst (v := 1) C.1 C.2.1 dX10_end_25 (by decide) ?_
  exact x_retz B hw rfl ⟨rfl, rfl⟩ (Nat.le_of_ble_eq_true rfl) (Nat.le_of_ble_eq_true rfl) dX10_end_26
theorem dX10_end_15 : decode cX10_end 15 = .ok (.iconst 0, 1) := by decide +kernel
theorem dX10_end_16 : decode cX10_end 16 = .ok (.ireturn, 1) := by decide +kernel
set_option maxHeartbeats 4000000 in
set_option maxRecDepth 100000 in
theorem c_X10_end__N {l : Launch} {G : Gc} (qx : Nat) (a1 : Int32) (qt : Nat) (qs : Nat) (qd : Nat) (qa : Nat) (qb : Nat) (qh : Nat) (qr : Nat) (qe : Nat) (qp : Nat) (qf : Nat) (qn : Nat) (qi : Nat) (qo : Nat) (kc : Nat) (bys : Nat) (hn : ¬ a1 = 0) : Ci l yX10_end cX10_end 2 (some .boolean) 0 0 0 G [.ref qx, .int a1] [(qx, .inr (9, [.ref qt, .ref qs, .ref qd, .ref qa, .ref qb, .ref qh, .ref qr, .ref qe, .ref qp, .ref qf, .ref qn, .ref qi, .ref qo, .int 0, .int 0, .int (-1), .int (-1)])), (qt, .inr (8, [.ref kc, .ref bys, .int 0, .int 0, .int 0, .int 0, .int 0, .int 0, .long 0, .int 0, .int 0, .int 0]))] (fun (r9 : Int32) (u9 : va_W) => r9 = 0 ∧ u9 = [(qx, .inr (9, [.ref qt, .ref qs, .ref qd, .ref qa, .ref qb, .ref qh, .ref qr, .ref qe, .ref qp, .ref qf, .ref qn, .ref qi, .ref qo, .int 0, .int 0, .int (-1), .int (-1)])), (qt, .inr (8, [.ref kc, .ref bys, .int 0, .int 0, .int 0, .int 0, .int 0, .int 0, .long 0, .int 0, .int 0, .int 0]))]) := by
  refine Ci.of (by decide) (Nat.le_of_ble_eq_true rfl) ?_
  intro p e s m below meth c ls A B hw hl
  have C : CallFix p m c cX10_end 2 s _ gw "LanternState" := B.1
  have hl : lv_has ls 2 [(0, .ref qx), (1, .int a1)] := hl
  refine lv_iload_n C.1 C.2.1 dX10_end_0 rfl (lv_at hl 1 rfl) ?_
  refine lv_if_lt (tgt := 15) C.1 C.2.1 dX10_end_1 (by decide) (fun c_1 => ?_) (fun c_1 => ?_)
  · skip
    refine lv_iconst (v := 0) C.1 C.2.1 dX10_end_15 (by decide) ?_
    exact x_retz B hw rfl ⟨rfl, rfl⟩ (Nat.le_of_ble_eq_true rfl) (Nat.le_of_ble_eq_true rfl) dX10_end_16
  · skip
    refine lv_iload_n C.1 C.2.1 dX10_end_4 rfl (lv_at hl 1 rfl) ?_
    refine lv_aload_n C.1 C.2.1 dX10_end_5 rfl (lv_at hl 0 rfl) ?_
    refine x_get C hw iwX10 9 rfl 0 rfl 0 (by decide) kw446 rfl dX10_end_6 ?_
    refine x_get C hw iwX9 8 rfl 1 rfl 2 (by decide) kw90 rfl dX10_end_9 ?_
    refine lv_icmp_le (tgt := 17) C.1 C.2.1 dX10_end_12 (by decide) (fun h9 => absurd h9 (x_nle c_1 hn)) (fun _ => ?_)
    refine lv_iconst (v := 0) C.1 C.2.1 dX10_end_15 (by decide) ?_
    exact x_retz B hw rfl ⟨rfl, rfl⟩ (Nat.le_of_ble_eq_true rfl) (Nat.le_of_ble_eq_true rfl) dX10_end_16
theorem dX10_fault_0 : decode cX10_fault 0 = .ok (.aload_n 0, 1) := by decide +kernel
theorem dX10_fault_1 : decode cX10_fault 1 = .ok (.getfield 129, 3) := by decide +kernel
theorem dX10_fault_4 : decode cX10_fault 4 = .ok (.ireturn, 1) := by decide +kernel
set_option maxHeartbeats 4000000 in
set_option maxRecDepth 100000 in
theorem c_X10_fault {l : Launch} {G : Gc} (qx : Nat) (qt : Nat) (qs : Nat) (qd : Nat) (qa : Nat) (qb : Nat) (qh : Nat) (qr : Nat) (qe : Nat) (qp : Nat) (qf : Nat) (qn : Nat) (qi : Nat) (qo : Nat)  : Ci l yX10_fault cX10_fault 1 (some .int) 0 0 0 G [.ref qx] [(qx, .inr (9, [.ref qt, .ref qs, .ref qd, .ref qa, .ref qb, .ref qh, .ref qr, .ref qe, .ref qp, .ref qf, .ref qn, .ref qi, .ref qo, .int 0, .int 0, .int (-1), .int (-1)]))] (fun (r9 : Int32) (u9 : va_W) => r9 = 0 ∧ u9 = [(qx, .inr (9, [.ref qt, .ref qs, .ref qd, .ref qa, .ref qb, .ref qh, .ref qr, .ref qe, .ref qp, .ref qf, .ref qn, .ref qi, .ref qo, .int 0, .int 0, .int (-1), .int (-1)]))]) := by
  refine Ci.of (by decide) (Nat.le_of_ble_eq_true rfl) ?_
  intro p e s m below meth c ls A B hw hl
  have C : CallFix p m c cX10_fault 1 s _ gw "LanternState" := B.1
  have hl : lv_has ls 1 [(0, .ref qx)] := hl
  refine lv_aload_n C.1 C.2.1 dX10_fault_0 rfl (lv_at hl 0 rfl) ?_
  refine x_get C hw iwX10 9 rfl 0 rfl 14 (by decide) kw460 rfl dX10_fault_1 ?_
  exact x_reti B hw ⟨rfl, rfl⟩ (Nat.le_of_ble_eq_true rfl) (Nat.le_of_ble_eq_true rfl) dX10_fault_4
theorem dX10_row_0 : decode cX10_row 0 = .ok (.aload_n 0, 1) := by decide +kernel
theorem dX10_row_1 : decode cX10_row 1 = .ok (.iload_n 1, 1) := by decide +kernel
theorem dX10_row_2 : decode cX10_row 2 = .ok (.invokevirtual 132, 3) := by decide +kernel
theorem mwX10_isSlide : MwV yX10_isSlide cX10_isSlide 2 (some .boolean) 1 := ⟨⟨kw652, kw1, by decide +kernel⟩, kw651, kS13⟩
theorem dX10_row_5 : decode cX10_row 5 = .ok (.ifCond .eq 25, 3) := by decide +kernel
theorem dX10_row_30 : decode cX10_row 30 = .ok (.iconst (-1), 1) := by decide +kernel
theorem dX10_row_31 : decode cX10_row 31 = .ok (.ireturn, 1) := by decide +kernel
set_option maxHeartbeats 4000000 in
set_option maxRecDepth 100000 in
theorem c_X10_row {l : Launch} {G : Gc} (qx : Nat) (a1 : Int32) (a2 : Int32) (a3 : Int32) (a4 : Int32) (qt : Nat) (qs : Nat) (qd : Nat) (qa : Nat) (qb : Nat) (qh : Nat) (qr : Nat) (qe : Nat) (qp : Nat) (qf : Nat) (qn : Nat) (qi : Nat) (qo : Nat) (sslideNames : Nat) (spictures : Nat) (sheats : Nat) (safter : Nat) (shearerNames : Nat) (sneeds : Nat) (slikes : Nat) (shates : Nat) (snear : Nat)  : Ci l yX10_row cX10_row 6 (some .int) 1 0 0 G [.ref qx, .int a1, .int a2, .int a3, .int a4] [(qx, .inr (9, [.ref qt, .ref qs, .ref qd, .ref qa, .ref qb, .ref qh, .ref qr, .ref qe, .ref qp, .ref qf, .ref qn, .ref qi, .ref qo, .int 0, .int 0, .int (-1), .int (-1)])), (qs, .inr (4, [.int 0, .int 0, .int 0, .int 0, .int 1, .int 0, .int 40, .int 0, .int 0, .ref sslideNames, .ref spictures, .ref sheats, .ref safter, .ref shearerNames, .ref sneeds, .ref slikes, .ref shates, .ref snear]))] (fun (r9 : Int32) (u9 : va_W) => r9 = (-1) ∧ u9 = [(qx, .inr (9, [.ref qt, .ref qs, .ref qd, .ref qa, .ref qb, .ref qh, .ref qr, .ref qe, .ref qp, .ref qf, .ref qn, .ref qi, .ref qo, .int 0, .int 0, .int (-1), .int (-1)])), (qs, .inr (4, [.int 0, .int 0, .int 0, .int 0, .int 1, .int 0, .int 40, .int 0, .int 0, .ref sslideNames, .ref spictures, .ref sheats, .ref safter, .ref shearerNames, .ref sneeds, .ref slikes, .ref shates, .ref snear]))]) := by
  refine Ci.of (by decide) (Nat.le_of_ble_eq_true rfl) ?_
  intro p e s m below meth c ls A B hw hl
  have C : CallFix p m c cX10_row 6 s _ gw "LanternState" := B.1
  have hl : lv_has ls 6 [(0, .ref qx), (1, .int a1), (2, .int a2), (3, .int a3), (4, .int a4)] := hl
  refine lv_aload_n C.1 C.2.1 dX10_row_0 rfl (lv_at hl 0 rfl) ?_
  refine lv_iload_n C.1 C.2.1 dX10_row_1 rfl (lv_at hl 1 rfl) ?_
  refine x_calliV (As := [.int a1]) (rest := []) (wr := []) C hw (c_X10_isSlide qx a1 qt qs qd qa qb qh qr qe qp qf qn qi qo sslideNames spictures sheats safter shearerNames sneeds slikes shates snear) mwX10_isSlide kw649 [0, 1] [] rfl rfl rfl rfl (by decide) 0 rfl rfl rfl rfl hl.1 rfl (Nat.le_of_ble_eq_true rfl) ⟨(Nat.le_of_ble_eq_true rfl), (Nat.le_of_ble_eq_true rfl)⟩ ⟨(Nat.le_of_ble_eq_true rfl), (Nat.le_of_ble_eq_true rfl)⟩ dX10_row_2 (fun r1 u9 H locs hp9 hw => ?_)
  obtain ⟨rfl, rfl⟩ := hp9
  have hw : Wd G s A [(qx, .inr (9, [.ref qt, .ref qs, .ref qd, .ref qa, .ref qb, .ref qh, .ref qr, .ref qe, .ref qp, .ref qf, .ref qn, .ref qi, .ref qo, .int 0, .int 0, .int (-1), .int (-1)])), (qs, .inr (4, [.int 0, .int 0, .int 0, .int 0, .int 1, .int 0, .int 40, .int 0, .int 0, .ref sslideNames, .ref spictures, .ref sheats, .ref safter, .ref shearerNames, .ref sneeds, .ref slikes, .ref shates, .ref snear]))] H _ := hw
  refine lv_if_eq (tgt := 30) C.1 C.2.1 dX10_row_5 (by decide) (fun _ => ?_) (fun h9 => absurd (by decide) h9)
  refine lv_iconst (v := (-1)) C.1 C.2.1 dX10_row_30 (by decide) ?_
  exact x_reti B hw ⟨rfl, rfl⟩ (Nat.le_of_ble_eq_true rfl) (Nat.le_of_ble_eq_true rfl) dX10_row_31
theorem dX10_show_0 : decode cX10_show 0 = .ok (.aload_n 0, 1) := by decide +kernel
theorem dX10_show_1 : decode cX10_show 1 = .ok (.iload_n 1, 1) := by decide +kernel
theorem dX10_show_2 : decode cX10_show 2 = .ok (.invokevirtual 132, 3) := by decide +kernel
theorem dX10_show_5 : decode cX10_show 5 = .ok (.ifCond .eq 10, 3) := by decide +kernel
theorem dX10_show_15 : decode cX10_show 15 = .ok (.iconst (-1), 1) := by decide +kernel
theorem dX10_show_16 : decode cX10_show 16 = .ok (.ireturn, 1) := by decide +kernel
set_option maxHeartbeats 4000000 in
set_option maxRecDepth 100000 in
theorem c_X10_show {l : Launch} {G : Gc} (qx : Nat) (a1 : Int32) (a2 : Int32) (qt : Nat) (qs : Nat) (qd : Nat) (qa : Nat) (qb : Nat) (qh : Nat) (qr : Nat) (qe : Nat) (qp : Nat) (qf : Nat) (qn : Nat) (qi : Nat) (qo : Nat) (sslideNames : Nat) (spictures : Nat) (sheats : Nat) (safter : Nat) (shearerNames : Nat) (sneeds : Nat) (slikes : Nat) (shates : Nat) (snear : Nat)  : Ci l yX10_show cX10_show 3 (some .int) 1 0 0 G [.ref qx, .int a1, .int a2] [(qx, .inr (9, [.ref qt, .ref qs, .ref qd, .ref qa, .ref qb, .ref qh, .ref qr, .ref qe, .ref qp, .ref qf, .ref qn, .ref qi, .ref qo, .int 0, .int 0, .int (-1), .int (-1)])), (qs, .inr (4, [.int 0, .int 0, .int 0, .int 0, .int 1, .int 0, .int 40, .int 0, .int 0, .ref sslideNames, .ref spictures, .ref sheats, .ref safter, .ref shearerNames, .ref sneeds, .ref slikes, .ref shates, .ref snear]))] (fun (r9 : Int32) (u9 : va_W) => r9 = (-1) ∧ u9 = [(qx, .inr (9, [.ref qt, .ref qs, .ref qd, .ref qa, .ref qb, .ref qh, .ref qr, .ref qe, .ref qp, .ref qf, .ref qn, .ref qi, .ref qo, .int 0, .int 0, .int (-1), .int (-1)])), (qs, .inr (4, [.int 0, .int 0, .int 0, .int 0, .int 1, .int 0, .int 40, .int 0, .int 0, .ref sslideNames, .ref spictures, .ref sheats, .ref safter, .ref shearerNames, .ref sneeds, .ref slikes, .ref shates, .ref snear]))]) := by
  refine Ci.of (by decide) (Nat.le_of_ble_eq_true rfl) ?_
  intro p e s m below meth c ls A B hw hl
  have C : CallFix p m c cX10_show 3 s _ gw "LanternState" := B.1
  have hl : lv_has ls 3 [(0, .ref qx), (1, .int a1), (2, .int a2)] := hl
  refine lv_aload_n C.1 C.2.1 dX10_show_0 rfl (lv_at hl 0 rfl) ?_
  refine lv_iload_n C.1 C.2.1 dX10_show_1 rfl (lv_at hl 1 rfl) ?_
  refine x_calliV (As := [.int a1]) (rest := []) (wr := []) C hw (c_X10_isSlide qx a1 qt qs qd qa qb qh qr qe qp qf qn qi qo sslideNames spictures sheats safter shearerNames sneeds slikes shates snear) mwX10_isSlide kw649 [0, 1] [] rfl rfl rfl rfl (by decide) 0 rfl rfl rfl rfl hl.1 rfl (Nat.le_of_ble_eq_true rfl) ⟨(Nat.le_of_ble_eq_true rfl), (Nat.le_of_ble_eq_true rfl)⟩ ⟨(Nat.le_of_ble_eq_true rfl), (Nat.le_of_ble_eq_true rfl)⟩ dX10_show_2 (fun r1 u9 H locs hp9 hw => ?_)
  obtain ⟨rfl, rfl⟩ := hp9
  have hw : Wd G s A [(qx, .inr (9, [.ref qt, .ref qs, .ref qd, .ref qa, .ref qb, .ref qh, .ref qr, .ref qe, .ref qp, .ref qf, .ref qn, .ref qi, .ref qo, .int 0, .int 0, .int (-1), .int (-1)])), (qs, .inr (4, [.int 0, .int 0, .int 0, .int 0, .int 1, .int 0, .int 40, .int 0, .int 0, .ref sslideNames, .ref spictures, .ref sheats, .ref safter, .ref shearerNames, .ref sneeds, .ref slikes, .ref shates, .ref snear]))] H _ := hw
  refine lv_if_eq (tgt := 15) C.1 C.2.1 dX10_show_5 (by decide) (fun _ => ?_) (fun h9 => absurd (by decide) h9)
  refine lv_iconst (v := (-1)) C.1 C.2.1 dX10_show_15 (by decide) ?_
  exact x_reti B hw ⟨rfl, rfl⟩ (Nat.le_of_ble_eq_true rfl) (Nat.le_of_ble_eq_true rfl) dX10_show_16
theorem dX10_over_0 : decode cX10_over 0 = .ok (.aload_n 0, 1) := by decide +kernel
theorem dX10_over_1 : decode cX10_over 1 = .ok (.iload_n 1, 1) := by decide +kernel
theorem dX10_over_2 : decode cX10_over 2 = .ok (.invokevirtual 132, 3) := by decide +kernel
theorem dX10_over_5 : decode cX10_over 5 = .ok (.ifCond .eq 11, 3) := by decide +kernel
theorem dX10_over_16 : decode cX10_over 16 = .ok (.iconst (-1), 1) := by decide +kernel
theorem dX10_over_17 : decode cX10_over 17 = .ok (.ireturn, 1) := by decide +kernel
set_option maxHeartbeats 4000000 in
set_option maxRecDepth 100000 in
theorem c_X10_over {l : Launch} {G : Gc} (qx : Nat) (a1 : Int32) (a2 : Int32) (qt : Nat) (qs : Nat) (qd : Nat) (qa : Nat) (qb : Nat) (qh : Nat) (qr : Nat) (qe : Nat) (qp : Nat) (qf : Nat) (qn : Nat) (qi : Nat) (qo : Nat) (sslideNames : Nat) (spictures : Nat) (sheats : Nat) (safter : Nat) (shearerNames : Nat) (sneeds : Nat) (slikes : Nat) (shates : Nat) (snear : Nat)  : Ci l yX10_over cX10_over 3 (some .int) 1 0 0 G [.ref qx, .int a1, .int a2] [(qx, .inr (9, [.ref qt, .ref qs, .ref qd, .ref qa, .ref qb, .ref qh, .ref qr, .ref qe, .ref qp, .ref qf, .ref qn, .ref qi, .ref qo, .int 0, .int 0, .int (-1), .int (-1)])), (qs, .inr (4, [.int 0, .int 0, .int 0, .int 0, .int 1, .int 0, .int 40, .int 0, .int 0, .ref sslideNames, .ref spictures, .ref sheats, .ref safter, .ref shearerNames, .ref sneeds, .ref slikes, .ref shates, .ref snear]))] (fun (r9 : Int32) (u9 : va_W) => r9 = (-1) ∧ u9 = [(qx, .inr (9, [.ref qt, .ref qs, .ref qd, .ref qa, .ref qb, .ref qh, .ref qr, .ref qe, .ref qp, .ref qf, .ref qn, .ref qi, .ref qo, .int 0, .int 0, .int (-1), .int (-1)])), (qs, .inr (4, [.int 0, .int 0, .int 0, .int 0, .int 1, .int 0, .int 40, .int 0, .int 0, .ref sslideNames, .ref spictures, .ref sheats, .ref safter, .ref shearerNames, .ref sneeds, .ref slikes, .ref shates, .ref snear]))]) := by
  refine Ci.of (by decide) (Nat.le_of_ble_eq_true rfl) ?_
  intro p e s m below meth c ls A B hw hl
  have C : CallFix p m c cX10_over 3 s _ gw "LanternState" := B.1
  have hl : lv_has ls 3 [(0, .ref qx), (1, .int a1), (2, .int a2)] := hl
  refine lv_aload_n C.1 C.2.1 dX10_over_0 rfl (lv_at hl 0 rfl) ?_
  refine lv_iload_n C.1 C.2.1 dX10_over_1 rfl (lv_at hl 1 rfl) ?_
  refine x_calliV (As := [.int a1]) (rest := []) (wr := []) C hw (c_X10_isSlide qx a1 qt qs qd qa qb qh qr qe qp qf qn qi qo sslideNames spictures sheats safter shearerNames sneeds slikes shates snear) mwX10_isSlide kw649 [0, 1] [] rfl rfl rfl rfl (by decide) 0 rfl rfl rfl rfl hl.1 rfl (Nat.le_of_ble_eq_true rfl) ⟨(Nat.le_of_ble_eq_true rfl), (Nat.le_of_ble_eq_true rfl)⟩ ⟨(Nat.le_of_ble_eq_true rfl), (Nat.le_of_ble_eq_true rfl)⟩ dX10_over_2 (fun r1 u9 H locs hp9 hw => ?_)
  obtain ⟨rfl, rfl⟩ := hp9
  have hw : Wd G s A [(qx, .inr (9, [.ref qt, .ref qs, .ref qd, .ref qa, .ref qb, .ref qh, .ref qr, .ref qe, .ref qp, .ref qf, .ref qn, .ref qi, .ref qo, .int 0, .int 0, .int (-1), .int (-1)])), (qs, .inr (4, [.int 0, .int 0, .int 0, .int 0, .int 1, .int 0, .int 40, .int 0, .int 0, .ref sslideNames, .ref spictures, .ref sheats, .ref safter, .ref shearerNames, .ref sneeds, .ref slikes, .ref shates, .ref snear]))] H _ := hw
  refine lv_if_eq (tgt := 16) C.1 C.2.1 dX10_over_5 (by decide) (fun _ => ?_) (fun h9 => absurd (by decide) h9)
  refine lv_iconst (v := (-1)) C.1 C.2.1 dX10_over_16 (by decide) ?_
  exact x_reti B hw ⟨rfl, rfl⟩ (Nat.le_of_ble_eq_true rfl) (Nat.le_of_ble_eq_true rfl) dX10_over_17
theorem dX10_scratch_0 : decode cX10_scratch 0 = .ok (.aload_n 0, 1) := by decide +kernel
theorem dX10_scratch_1 : decode cX10_scratch 1 = .ok (.iload_n 1, 1) := by decide +kernel
theorem dX10_scratch_2 : decode cX10_scratch 2 = .ok (.invokevirtual 132, 3) := by decide +kernel
theorem dX10_scratch_5 : decode cX10_scratch 5 = .ok (.ifCond .eq 17, 3) := by decide +kernel
theorem dX10_scratch_22 : decode cX10_scratch 22 = .ok (.iconst (-1), 1) := by decide +kernel
theorem dX10_scratch_23 : decode cX10_scratch 23 = .ok (.ireturn, 1) := by decide +kernel
set_option maxHeartbeats 4000000 in
set_option maxRecDepth 100000 in
theorem c_X10_scratch {l : Launch} {G : Gc} (qx : Nat) (a1 : Int32) (a2 : Int32) (a3 : Int32) (qt : Nat) (qs : Nat) (qd : Nat) (qa : Nat) (qb : Nat) (qh : Nat) (qr : Nat) (qe : Nat) (qp : Nat) (qf : Nat) (qn : Nat) (qi : Nat) (qo : Nat) (sslideNames : Nat) (spictures : Nat) (sheats : Nat) (safter : Nat) (shearerNames : Nat) (sneeds : Nat) (slikes : Nat) (shates : Nat) (snear : Nat)  : Ci l yX10_scratch cX10_scratch 5 (some .int) 1 0 0 G [.ref qx, .int a1, .int a2, .int a3] [(qx, .inr (9, [.ref qt, .ref qs, .ref qd, .ref qa, .ref qb, .ref qh, .ref qr, .ref qe, .ref qp, .ref qf, .ref qn, .ref qi, .ref qo, .int 0, .int 0, .int (-1), .int (-1)])), (qs, .inr (4, [.int 0, .int 0, .int 0, .int 0, .int 1, .int 0, .int 40, .int 0, .int 0, .ref sslideNames, .ref spictures, .ref sheats, .ref safter, .ref shearerNames, .ref sneeds, .ref slikes, .ref shates, .ref snear]))] (fun (r9 : Int32) (u9 : va_W) => r9 = (-1) ∧ u9 = [(qx, .inr (9, [.ref qt, .ref qs, .ref qd, .ref qa, .ref qb, .ref qh, .ref qr, .ref qe, .ref qp, .ref qf, .ref qn, .ref qi, .ref qo, .int 0, .int 0, .int (-1), .int (-1)])), (qs, .inr (4, [.int 0, .int 0, .int 0, .int 0, .int 1, .int 0, .int 40, .int 0, .int 0, .ref sslideNames, .ref spictures, .ref sheats, .ref safter, .ref shearerNames, .ref sneeds, .ref slikes, .ref shates, .ref snear]))]) := by
  refine Ci.of (by decide) (Nat.le_of_ble_eq_true rfl) ?_
  intro p e s m below meth c ls A B hw hl
  have C : CallFix p m c cX10_scratch 5 s _ gw "LanternState" := B.1
  have hl : lv_has ls 5 [(0, .ref qx), (1, .int a1), (2, .int a2), (3, .int a3)] := hl
  refine lv_aload_n C.1 C.2.1 dX10_scratch_0 rfl (lv_at hl 0 rfl) ?_
  refine lv_iload_n C.1 C.2.1 dX10_scratch_1 rfl (lv_at hl 1 rfl) ?_
  refine x_calliV (As := [.int a1]) (rest := []) (wr := []) C hw (c_X10_isSlide qx a1 qt qs qd qa qb qh qr qe qp qf qn qi qo sslideNames spictures sheats safter shearerNames sneeds slikes shates snear) mwX10_isSlide kw649 [0, 1] [] rfl rfl rfl rfl (by decide) 0 rfl rfl rfl rfl hl.1 rfl (Nat.le_of_ble_eq_true rfl) ⟨(Nat.le_of_ble_eq_true rfl), (Nat.le_of_ble_eq_true rfl)⟩ ⟨(Nat.le_of_ble_eq_true rfl), (Nat.le_of_ble_eq_true rfl)⟩ dX10_scratch_2 (fun r1 u9 H locs hp9 hw => ?_)
  obtain ⟨rfl, rfl⟩ := hp9
  have hw : Wd G s A [(qx, .inr (9, [.ref qt, .ref qs, .ref qd, .ref qa, .ref qb, .ref qh, .ref qr, .ref qe, .ref qp, .ref qf, .ref qn, .ref qi, .ref qo, .int 0, .int 0, .int (-1), .int (-1)])), (qs, .inr (4, [.int 0, .int 0, .int 0, .int 0, .int 1, .int 0, .int 40, .int 0, .int 0, .ref sslideNames, .ref spictures, .ref sheats, .ref safter, .ref shearerNames, .ref sneeds, .ref slikes, .ref shates, .ref snear]))] H _ := hw
  refine lv_if_eq (tgt := 22) C.1 C.2.1 dX10_scratch_5 (by decide) (fun _ => ?_) (fun h9 => absurd (by decide) h9)
  refine lv_iconst (v := (-1)) C.1 C.2.1 dX10_scratch_22 (by decide) ?_
  exact x_reti B hw ⟨rfl, rfl⟩ (Nat.le_of_ble_eq_true rfl) (Nat.le_of_ble_eq_true rfl) dX10_scratch_23
theorem dX10_sighs_0 : decode cX10_sighs 0 = .ok (.aload_n 0, 1) := by decide +kernel
theorem dX10_sighs_1 : decode cX10_sighs 1 = .ok (.iload_n 1, 1) := by decide +kernel
theorem dX10_sighs_2 : decode cX10_sighs 2 = .ok (.invokevirtual 132, 3) := by decide +kernel
theorem dX10_sighs_5 : decode cX10_sighs 5 = .ok (.ifCond .eq 10, 3) := by decide +kernel
theorem dX10_sighs_15 : decode cX10_sighs 15 = .ok (.iconst (-1), 1) := by decide +kernel
theorem dX10_sighs_16 : decode cX10_sighs 16 = .ok (.ireturn, 1) := by decide +kernel
set_option maxHeartbeats 4000000 in
set_option maxRecDepth 100000 in
theorem c_X10_sighs {l : Launch} {G : Gc} (qx : Nat) (a1 : Int32) (a2 : Int32) (qt : Nat) (qs : Nat) (qd : Nat) (qa : Nat) (qb : Nat) (qh : Nat) (qr : Nat) (qe : Nat) (qp : Nat) (qf : Nat) (qn : Nat) (qi : Nat) (qo : Nat) (sslideNames : Nat) (spictures : Nat) (sheats : Nat) (safter : Nat) (shearerNames : Nat) (sneeds : Nat) (slikes : Nat) (shates : Nat) (snear : Nat)  : Ci l yX10_sighs cX10_sighs 3 (some .int) 1 0 0 G [.ref qx, .int a1, .int a2] [(qx, .inr (9, [.ref qt, .ref qs, .ref qd, .ref qa, .ref qb, .ref qh, .ref qr, .ref qe, .ref qp, .ref qf, .ref qn, .ref qi, .ref qo, .int 0, .int 0, .int (-1), .int (-1)])), (qs, .inr (4, [.int 0, .int 0, .int 0, .int 0, .int 1, .int 0, .int 40, .int 0, .int 0, .ref sslideNames, .ref spictures, .ref sheats, .ref safter, .ref shearerNames, .ref sneeds, .ref slikes, .ref shates, .ref snear]))] (fun (r9 : Int32) (u9 : va_W) => r9 = (-1) ∧ u9 = [(qx, .inr (9, [.ref qt, .ref qs, .ref qd, .ref qa, .ref qb, .ref qh, .ref qr, .ref qe, .ref qp, .ref qf, .ref qn, .ref qi, .ref qo, .int 0, .int 0, .int (-1), .int (-1)])), (qs, .inr (4, [.int 0, .int 0, .int 0, .int 0, .int 1, .int 0, .int 40, .int 0, .int 0, .ref sslideNames, .ref spictures, .ref sheats, .ref safter, .ref shearerNames, .ref sneeds, .ref slikes, .ref shates, .ref snear]))]) := by
  refine Ci.of (by decide) (Nat.le_of_ble_eq_true rfl) ?_
  intro p e s m below meth c ls A B hw hl
  have C : CallFix p m c cX10_sighs 3 s _ gw "LanternState" := B.1
  have hl : lv_has ls 3 [(0, .ref qx), (1, .int a1), (2, .int a2)] := hl
  refine lv_aload_n C.1 C.2.1 dX10_sighs_0 rfl (lv_at hl 0 rfl) ?_
  refine lv_iload_n C.1 C.2.1 dX10_sighs_1 rfl (lv_at hl 1 rfl) ?_
  refine x_calliV (As := [.int a1]) (rest := []) (wr := []) C hw (c_X10_isSlide qx a1 qt qs qd qa qb qh qr qe qp qf qn qi qo sslideNames spictures sheats safter shearerNames sneeds slikes shates snear) mwX10_isSlide kw649 [0, 1] [] rfl rfl rfl rfl (by decide) 0 rfl rfl rfl rfl hl.1 rfl (Nat.le_of_ble_eq_true rfl) ⟨(Nat.le_of_ble_eq_true rfl), (Nat.le_of_ble_eq_true rfl)⟩ ⟨(Nat.le_of_ble_eq_true rfl), (Nat.le_of_ble_eq_true rfl)⟩ dX10_sighs_2 (fun r1 u9 H locs hp9 hw => ?_)
  obtain ⟨rfl, rfl⟩ := hp9
  have hw : Wd G s A [(qx, .inr (9, [.ref qt, .ref qs, .ref qd, .ref qa, .ref qb, .ref qh, .ref qr, .ref qe, .ref qp, .ref qf, .ref qn, .ref qi, .ref qo, .int 0, .int 0, .int (-1), .int (-1)])), (qs, .inr (4, [.int 0, .int 0, .int 0, .int 0, .int 1, .int 0, .int 40, .int 0, .int 0, .ref sslideNames, .ref spictures, .ref sheats, .ref safter, .ref shearerNames, .ref sneeds, .ref slikes, .ref shates, .ref snear]))] H _ := hw
  refine lv_if_eq (tgt := 15) C.1 C.2.1 dX10_sighs_5 (by decide) (fun _ => ?_) (fun h9 => absurd (by decide) h9)
  refine lv_iconst (v := (-1)) C.1 C.2.1 dX10_sighs_15 (by decide) ?_
  exact x_reti B hw ⟨rfl, rfl⟩ (Nat.le_of_ble_eq_true rfl) (Nat.le_of_ble_eq_true rfl) dX10_sighs_16
theorem dX10_best_0 : decode cX10_best 0 = .ok (.aload_n 0, 1) := by decide +kernel
theorem dX10_best_1 : decode cX10_best 1 = .ok (.iload_n 1, 1) := by decide +kernel
theorem dX10_best_2 : decode cX10_best 2 = .ok (.invokevirtual 132, 3) := by decide +kernel
theorem dX10_best_5 : decode cX10_best 5 = .ok (.ifCond .ne 5, 3) := by decide +kernel
theorem dX10_best_8 : decode cX10_best 8 = .ok (.iconst (-1), 1) := by decide +kernel
theorem dX10_best_9 : decode cX10_best 9 = .ok (.ireturn, 1) := by decide +kernel
set_option maxHeartbeats 4000000 in
set_option maxRecDepth 100000 in
theorem c_X10_best {l : Launch} {G : Gc} (qx : Nat) (a1 : Int32) (qt : Nat) (qs : Nat) (qd : Nat) (qa : Nat) (qb : Nat) (qh : Nat) (qr : Nat) (qe : Nat) (qp : Nat) (qf : Nat) (qn : Nat) (qi : Nat) (qo : Nat) (sslideNames : Nat) (spictures : Nat) (sheats : Nat) (safter : Nat) (shearerNames : Nat) (sneeds : Nat) (slikes : Nat) (shates : Nat) (snear : Nat)  : Ci l yX10_best cX10_best 6 (some .int) 1 0 0 G [.ref qx, .int a1] [(qx, .inr (9, [.ref qt, .ref qs, .ref qd, .ref qa, .ref qb, .ref qh, .ref qr, .ref qe, .ref qp, .ref qf, .ref qn, .ref qi, .ref qo, .int 0, .int 0, .int (-1), .int (-1)])), (qs, .inr (4, [.int 0, .int 0, .int 0, .int 0, .int 1, .int 0, .int 40, .int 0, .int 0, .ref sslideNames, .ref spictures, .ref sheats, .ref safter, .ref shearerNames, .ref sneeds, .ref slikes, .ref shates, .ref snear]))] (fun (r9 : Int32) (u9 : va_W) => r9 = (-1) ∧ u9 = [(qx, .inr (9, [.ref qt, .ref qs, .ref qd, .ref qa, .ref qb, .ref qh, .ref qr, .ref qe, .ref qp, .ref qf, .ref qn, .ref qi, .ref qo, .int 0, .int 0, .int (-1), .int (-1)])), (qs, .inr (4, [.int 0, .int 0, .int 0, .int 0, .int 1, .int 0, .int 40, .int 0, .int 0, .ref sslideNames, .ref spictures, .ref sheats, .ref safter, .ref shearerNames, .ref sneeds, .ref slikes, .ref shates, .ref snear]))]) := by
  refine Ci.of (by decide) (Nat.le_of_ble_eq_true rfl) ?_
  intro p e s m below meth c ls A B hw hl
  have C : CallFix p m c cX10_best 6 s _ gw "LanternState" := B.1
  have hl : lv_has ls 6 [(0, .ref qx), (1, .int a1)] := hl
  refine lv_aload_n C.1 C.2.1 dX10_best_0 rfl (lv_at hl 0 rfl) ?_
  refine lv_iload_n C.1 C.2.1 dX10_best_1 rfl (lv_at hl 1 rfl) ?_
  refine x_calliV (As := [.int a1]) (rest := []) (wr := []) C hw (c_X10_isSlide qx a1 qt qs qd qa qb qh qr qe qp qf qn qi qo sslideNames spictures sheats safter shearerNames sneeds slikes shates snear) mwX10_isSlide kw649 [0, 1] [] rfl rfl rfl rfl (by decide) 0 rfl rfl rfl rfl hl.1 rfl (Nat.le_of_ble_eq_true rfl) ⟨(Nat.le_of_ble_eq_true rfl), (Nat.le_of_ble_eq_true rfl)⟩ ⟨(Nat.le_of_ble_eq_true rfl), (Nat.le_of_ble_eq_true rfl)⟩ dX10_best_2 (fun r1 u9 H locs hp9 hw => ?_)
  obtain ⟨rfl, rfl⟩ := hp9
  have hw : Wd G s A [(qx, .inr (9, [.ref qt, .ref qs, .ref qd, .ref qa, .ref qb, .ref qh, .ref qr, .ref qe, .ref qp, .ref qf, .ref qn, .ref qi, .ref qo, .int 0, .int 0, .int (-1), .int (-1)])), (qs, .inr (4, [.int 0, .int 0, .int 0, .int 0, .int 1, .int 0, .int 40, .int 0, .int 0, .ref sslideNames, .ref spictures, .ref sheats, .ref safter, .ref shearerNames, .ref sneeds, .ref slikes, .ref shates, .ref snear]))] H _ := hw
  refine lv_if_ne (tgt := 10) C.1 C.2.1 dX10_best_5 (by decide) (fun h9 => absurd (by decide) h9) (fun _ => ?_)
  refine lv_iconst (v := (-1)) C.1 C.2.1 dX10_best_8 (by decide) ?_
  exact x_reti B hw ⟨rfl, rfl⟩ (Nat.le_of_ble_eq_true rfl) (Nat.le_of_ble_eq_true rfl) dX10_best_9
theorem dX10_moved_0 : decode cX10_moved 0 = .ok (.aload_n 0, 1) := by decide +kernel
theorem dX10_moved_1 : decode cX10_moved 1 = .ok (.iload_n 1, 1) := by decide +kernel
theorem dX10_moved_2 : decode cX10_moved 2 = .ok (.invokevirtual 132, 3) := by decide +kernel
theorem dX10_moved_5 : decode cX10_moved 5 = .ok (.ifCond .eq 10, 3) := by decide +kernel
theorem dX10_moved_15 : decode cX10_moved 15 = .ok (.iconst (-1), 1) := by decide +kernel
theorem dX10_moved_16 : decode cX10_moved 16 = .ok (.ireturn, 1) := by decide +kernel
set_option maxHeartbeats 4000000 in
set_option maxRecDepth 100000 in
theorem c_X10_moved {l : Launch} {G : Gc} (qx : Nat) (a1 : Int32) (a2 : Int32) (qt : Nat) (qs : Nat) (qd : Nat) (qa : Nat) (qb : Nat) (qh : Nat) (qr : Nat) (qe : Nat) (qp : Nat) (qf : Nat) (qn : Nat) (qi : Nat) (qo : Nat) (sslideNames : Nat) (spictures : Nat) (sheats : Nat) (safter : Nat) (shearerNames : Nat) (sneeds : Nat) (slikes : Nat) (shates : Nat) (snear : Nat)  : Ci l yX10_moved cX10_moved 4 (some .int) 1 0 0 G [.ref qx, .int a1, .int a2] [(qx, .inr (9, [.ref qt, .ref qs, .ref qd, .ref qa, .ref qb, .ref qh, .ref qr, .ref qe, .ref qp, .ref qf, .ref qn, .ref qi, .ref qo, .int 0, .int 0, .int (-1), .int (-1)])), (qs, .inr (4, [.int 0, .int 0, .int 0, .int 0, .int 1, .int 0, .int 40, .int 0, .int 0, .ref sslideNames, .ref spictures, .ref sheats, .ref safter, .ref shearerNames, .ref sneeds, .ref slikes, .ref shates, .ref snear]))] (fun (r9 : Int32) (u9 : va_W) => r9 = (-1) ∧ u9 = [(qx, .inr (9, [.ref qt, .ref qs, .ref qd, .ref qa, .ref qb, .ref qh, .ref qr, .ref qe, .ref qp, .ref qf, .ref qn, .ref qi, .ref qo, .int 0, .int 0, .int (-1), .int (-1)])), (qs, .inr (4, [.int 0, .int 0, .int 0, .int 0, .int 1, .int 0, .int 40, .int 0, .int 0, .ref sslideNames, .ref spictures, .ref sheats, .ref safter, .ref shearerNames, .ref sneeds, .ref slikes, .ref shates, .ref snear]))]) := by
  refine Ci.of (by decide) (Nat.le_of_ble_eq_true rfl) ?_
  intro p e s m below meth c ls A B hw hl
  have C : CallFix p m c cX10_moved 4 s _ gw "LanternState" := B.1
  have hl : lv_has ls 4 [(0, .ref qx), (1, .int a1), (2, .int a2)] := hl
  refine lv_aload_n C.1 C.2.1 dX10_moved_0 rfl (lv_at hl 0 rfl) ?_
  refine lv_iload_n C.1 C.2.1 dX10_moved_1 rfl (lv_at hl 1 rfl) ?_
  refine x_calliV (As := [.int a1]) (rest := []) (wr := []) C hw (c_X10_isSlide qx a1 qt qs qd qa qb qh qr qe qp qf qn qi qo sslideNames spictures sheats safter shearerNames sneeds slikes shates snear) mwX10_isSlide kw649 [0, 1] [] rfl rfl rfl rfl (by decide) 0 rfl rfl rfl rfl hl.1 rfl (Nat.le_of_ble_eq_true rfl) ⟨(Nat.le_of_ble_eq_true rfl), (Nat.le_of_ble_eq_true rfl)⟩ ⟨(Nat.le_of_ble_eq_true rfl), (Nat.le_of_ble_eq_true rfl)⟩ dX10_moved_2 (fun r1 u9 H locs hp9 hw => ?_)
  obtain ⟨rfl, rfl⟩ := hp9
  have hw : Wd G s A [(qx, .inr (9, [.ref qt, .ref qs, .ref qd, .ref qa, .ref qb, .ref qh, .ref qr, .ref qe, .ref qp, .ref qf, .ref qn, .ref qi, .ref qo, .int 0, .int 0, .int (-1), .int (-1)])), (qs, .inr (4, [.int 0, .int 0, .int 0, .int 0, .int 1, .int 0, .int 40, .int 0, .int 0, .ref sslideNames, .ref spictures, .ref sheats, .ref safter, .ref shearerNames, .ref sneeds, .ref slikes, .ref shates, .ref snear]))] H _ := hw
  refine lv_if_eq (tgt := 15) C.1 C.2.1 dX10_moved_5 (by decide) (fun _ => ?_) (fun h9 => absurd (by decide) h9)
  refine lv_iconst (v := (-1)) C.1 C.2.1 dX10_moved_15 (by decide) ?_
  exact x_reti B hw ⟨rfl, rfl⟩ (Nat.le_of_ble_eq_true rfl) (Nat.le_of_ble_eq_true rfl) dX10_moved_16
theorem dX10_scratches_0 : decode cX10_scratches 0 = .ok (.aload_n 0, 1) := by decide +kernel
theorem dX10_scratches_1 : decode cX10_scratches 1 = .ok (.iload_n 1, 1) := by decide +kernel
theorem dX10_scratches_2 : decode cX10_scratches 2 = .ok (.invokevirtual 132, 3) := by decide +kernel
theorem dX10_scratches_5 : decode cX10_scratches 5 = .ok (.ifCond .ne 5, 3) := by decide +kernel
theorem dX10_scratches_8 : decode cX10_scratches 8 = .ok (.iconst (-1), 1) := by decide +kernel
theorem dX10_scratches_9 : decode cX10_scratches 9 = .ok (.ireturn, 1) := by decide +kernel
set_option maxHeartbeats 4000000 in
set_option maxRecDepth 100000 in
theorem c_X10_scratches {l : Launch} {G : Gc} (qx : Nat) (a1 : Int32) (qt : Nat) (qs : Nat) (qd : Nat) (qa : Nat) (qb : Nat) (qh : Nat) (qr : Nat) (qe : Nat) (qp : Nat) (qf : Nat) (qn : Nat) (qi : Nat) (qo : Nat) (sslideNames : Nat) (spictures : Nat) (sheats : Nat) (safter : Nat) (shearerNames : Nat) (sneeds : Nat) (slikes : Nat) (shates : Nat) (snear : Nat)  : Ci l yX10_scratches cX10_scratches 3 (some .int) 1 0 0 G [.ref qx, .int a1] [(qx, .inr (9, [.ref qt, .ref qs, .ref qd, .ref qa, .ref qb, .ref qh, .ref qr, .ref qe, .ref qp, .ref qf, .ref qn, .ref qi, .ref qo, .int 0, .int 0, .int (-1), .int (-1)])), (qs, .inr (4, [.int 0, .int 0, .int 0, .int 0, .int 1, .int 0, .int 40, .int 0, .int 0, .ref sslideNames, .ref spictures, .ref sheats, .ref safter, .ref shearerNames, .ref sneeds, .ref slikes, .ref shates, .ref snear]))] (fun (r9 : Int32) (u9 : va_W) => r9 = (-1) ∧ u9 = [(qx, .inr (9, [.ref qt, .ref qs, .ref qd, .ref qa, .ref qb, .ref qh, .ref qr, .ref qe, .ref qp, .ref qf, .ref qn, .ref qi, .ref qo, .int 0, .int 0, .int (-1), .int (-1)])), (qs, .inr (4, [.int 0, .int 0, .int 0, .int 0, .int 1, .int 0, .int 40, .int 0, .int 0, .ref sslideNames, .ref spictures, .ref sheats, .ref safter, .ref shearerNames, .ref sneeds, .ref slikes, .ref shates, .ref snear]))]) := by
  refine Ci.of (by decide) (Nat.le_of_ble_eq_true rfl) ?_
  intro p e s m below meth c ls A B hw hl
  have C : CallFix p m c cX10_scratches 3 s _ gw "LanternState" := B.1
  have hl : lv_has ls 3 [(0, .ref qx), (1, .int a1)] := hl
  refine lv_aload_n C.1 C.2.1 dX10_scratches_0 rfl (lv_at hl 0 rfl) ?_
  refine lv_iload_n C.1 C.2.1 dX10_scratches_1 rfl (lv_at hl 1 rfl) ?_
  refine x_calliV (As := [.int a1]) (rest := []) (wr := []) C hw (c_X10_isSlide qx a1 qt qs qd qa qb qh qr qe qp qf qn qi qo sslideNames spictures sheats safter shearerNames sneeds slikes shates snear) mwX10_isSlide kw649 [0, 1] [] rfl rfl rfl rfl (by decide) 0 rfl rfl rfl rfl hl.1 rfl (Nat.le_of_ble_eq_true rfl) ⟨(Nat.le_of_ble_eq_true rfl), (Nat.le_of_ble_eq_true rfl)⟩ ⟨(Nat.le_of_ble_eq_true rfl), (Nat.le_of_ble_eq_true rfl)⟩ dX10_scratches_2 (fun r1 u9 H locs hp9 hw => ?_)
  obtain ⟨rfl, rfl⟩ := hp9
  have hw : Wd G s A [(qx, .inr (9, [.ref qt, .ref qs, .ref qd, .ref qa, .ref qb, .ref qh, .ref qr, .ref qe, .ref qp, .ref qf, .ref qn, .ref qi, .ref qo, .int 0, .int 0, .int (-1), .int (-1)])), (qs, .inr (4, [.int 0, .int 0, .int 0, .int 0, .int 1, .int 0, .int 40, .int 0, .int 0, .ref sslideNames, .ref spictures, .ref sheats, .ref safter, .ref shearerNames, .ref sneeds, .ref slikes, .ref shates, .ref snear]))] H _ := hw
  refine lv_if_ne (tgt := 10) C.1 C.2.1 dX10_scratches_5 (by decide) (fun h9 => absurd (by decide) h9) (fun _ => ?_)
  refine lv_iconst (v := (-1)) C.1 C.2.1 dX10_scratches_8 (by decide) ?_
  exact x_reti B hw ⟨rfl, rfl⟩ (Nat.le_of_ble_eq_true rfl) (Nat.le_of_ble_eq_true rfl) dX10_scratches_9
theorem dX10_alike_0 : decode cX10_alike 0 = .ok (.aload_n 0, 1) := by decide +kernel
theorem dX10_alike_1 : decode cX10_alike 1 = .ok (.iload_n 1, 1) := by decide +kernel
theorem dX10_alike_2 : decode cX10_alike 2 = .ok (.invokevirtual 132, 3) := by decide +kernel
theorem dX10_alike_5 : decode cX10_alike 5 = .ok (.ifCond .ne 5, 3) := by decide +kernel
theorem dX10_alike_8 : decode cX10_alike 8 = .ok (.iconst (-1), 1) := by decide +kernel
theorem dX10_alike_9 : decode cX10_alike 9 = .ok (.ireturn, 1) := by decide +kernel
set_option maxHeartbeats 4000000 in
set_option maxRecDepth 100000 in
theorem c_X10_alike {l : Launch} {G : Gc} (qx : Nat) (a1 : Int32) (qt : Nat) (qs : Nat) (qd : Nat) (qa : Nat) (qb : Nat) (qh : Nat) (qr : Nat) (qe : Nat) (qp : Nat) (qf : Nat) (qn : Nat) (qi : Nat) (qo : Nat) (sslideNames : Nat) (spictures : Nat) (sheats : Nat) (safter : Nat) (shearerNames : Nat) (sneeds : Nat) (slikes : Nat) (shates : Nat) (snear : Nat)  : Ci l yX10_alike cX10_alike 2 (some .int) 1 0 0 G [.ref qx, .int a1] [(qx, .inr (9, [.ref qt, .ref qs, .ref qd, .ref qa, .ref qb, .ref qh, .ref qr, .ref qe, .ref qp, .ref qf, .ref qn, .ref qi, .ref qo, .int 0, .int 0, .int (-1), .int (-1)])), (qs, .inr (4, [.int 0, .int 0, .int 0, .int 0, .int 1, .int 0, .int 40, .int 0, .int 0, .ref sslideNames, .ref spictures, .ref sheats, .ref safter, .ref shearerNames, .ref sneeds, .ref slikes, .ref shates, .ref snear]))] (fun (r9 : Int32) (u9 : va_W) => r9 = (-1) ∧ u9 = [(qx, .inr (9, [.ref qt, .ref qs, .ref qd, .ref qa, .ref qb, .ref qh, .ref qr, .ref qe, .ref qp, .ref qf, .ref qn, .ref qi, .ref qo, .int 0, .int 0, .int (-1), .int (-1)])), (qs, .inr (4, [.int 0, .int 0, .int 0, .int 0, .int 1, .int 0, .int 40, .int 0, .int 0, .ref sslideNames, .ref spictures, .ref sheats, .ref safter, .ref shearerNames, .ref sneeds, .ref slikes, .ref shates, .ref snear]))]) := by
  refine Ci.of (by decide) (Nat.le_of_ble_eq_true rfl) ?_
  intro p e s m below meth c ls A B hw hl
  have C : CallFix p m c cX10_alike 2 s _ gw "LanternState" := B.1
  have hl : lv_has ls 2 [(0, .ref qx), (1, .int a1)] := hl
  refine lv_aload_n C.1 C.2.1 dX10_alike_0 rfl (lv_at hl 0 rfl) ?_
  refine lv_iload_n C.1 C.2.1 dX10_alike_1 rfl (lv_at hl 1 rfl) ?_
  refine x_calliV (As := [.int a1]) (rest := []) (wr := []) C hw (c_X10_isSlide qx a1 qt qs qd qa qb qh qr qe qp qf qn qi qo sslideNames spictures sheats safter shearerNames sneeds slikes shates snear) mwX10_isSlide kw649 [0, 1] [] rfl rfl rfl rfl (by decide) 0 rfl rfl rfl rfl hl.1 rfl (Nat.le_of_ble_eq_true rfl) ⟨(Nat.le_of_ble_eq_true rfl), (Nat.le_of_ble_eq_true rfl)⟩ ⟨(Nat.le_of_ble_eq_true rfl), (Nat.le_of_ble_eq_true rfl)⟩ dX10_alike_2 (fun r1 u9 H locs hp9 hw => ?_)
  obtain ⟨rfl, rfl⟩ := hp9
  have hw : Wd G s A [(qx, .inr (9, [.ref qt, .ref qs, .ref qd, .ref qa, .ref qb, .ref qh, .ref qr, .ref qe, .ref qp, .ref qf, .ref qn, .ref qi, .ref qo, .int 0, .int 0, .int (-1), .int (-1)])), (qs, .inr (4, [.int 0, .int 0, .int 0, .int 0, .int 1, .int 0, .int 40, .int 0, .int 0, .ref sslideNames, .ref spictures, .ref sheats, .ref safter, .ref shearerNames, .ref sneeds, .ref slikes, .ref shates, .ref snear]))] H _ := hw
  refine lv_if_ne (tgt := 10) C.1 C.2.1 dX10_alike_5 (by decide) (fun h9 => absurd (by decide) h9) (fun _ => ?_)
  refine lv_iconst (v := (-1)) C.1 C.2.1 dX10_alike_8 (by decide) ?_
  exact x_reti B hw ⟨rfl, rfl⟩ (Nat.le_of_ble_eq_true rfl) (Nat.le_of_ble_eq_true rfl) dX10_alike_9
theorem dX10_differ_0 : decode cX10_differ 0 = .ok (.aload_n 0, 1) := by decide +kernel
theorem dX10_differ_1 : decode cX10_differ 1 = .ok (.iload_n 1, 1) := by decide +kernel
theorem dX10_differ_2 : decode cX10_differ 2 = .ok (.invokevirtual 132, 3) := by decide +kernel
theorem dX10_differ_5 : decode cX10_differ 5 = .ok (.ifCond .eq 11, 3) := by decide +kernel
theorem dX10_differ_16 : decode cX10_differ 16 = .ok (.iconst (-1), 1) := by decide +kernel
theorem dX10_differ_17 : decode cX10_differ 17 = .ok (.ireturn, 1) := by decide +kernel
set_option maxHeartbeats 4000000 in
set_option maxRecDepth 100000 in
theorem c_X10_differ {l : Launch} {G : Gc} (qx : Nat) (a1 : Int32) (a2 : Int32) (qt : Nat) (qs : Nat) (qd : Nat) (qa : Nat) (qb : Nat) (qh : Nat) (qr : Nat) (qe : Nat) (qp : Nat) (qf : Nat) (qn : Nat) (qi : Nat) (qo : Nat) (sslideNames : Nat) (spictures : Nat) (sheats : Nat) (safter : Nat) (shearerNames : Nat) (sneeds : Nat) (slikes : Nat) (shates : Nat) (snear : Nat)  : Ci l yX10_differ cX10_differ 3 (some .int) 1 0 0 G [.ref qx, .int a1, .int a2] [(qx, .inr (9, [.ref qt, .ref qs, .ref qd, .ref qa, .ref qb, .ref qh, .ref qr, .ref qe, .ref qp, .ref qf, .ref qn, .ref qi, .ref qo, .int 0, .int 0, .int (-1), .int (-1)])), (qs, .inr (4, [.int 0, .int 0, .int 0, .int 0, .int 1, .int 0, .int 40, .int 0, .int 0, .ref sslideNames, .ref spictures, .ref sheats, .ref safter, .ref shearerNames, .ref sneeds, .ref slikes, .ref shates, .ref snear]))] (fun (r9 : Int32) (u9 : va_W) => r9 = (-1) ∧ u9 = [(qx, .inr (9, [.ref qt, .ref qs, .ref qd, .ref qa, .ref qb, .ref qh, .ref qr, .ref qe, .ref qp, .ref qf, .ref qn, .ref qi, .ref qo, .int 0, .int 0, .int (-1), .int (-1)])), (qs, .inr (4, [.int 0, .int 0, .int 0, .int 0, .int 1, .int 0, .int 40, .int 0, .int 0, .ref sslideNames, .ref spictures, .ref sheats, .ref safter, .ref shearerNames, .ref sneeds, .ref slikes, .ref shates, .ref snear]))]) := by
  refine Ci.of (by decide) (Nat.le_of_ble_eq_true rfl) ?_
  intro p e s m below meth c ls A B hw hl
  have C : CallFix p m c cX10_differ 3 s _ gw "LanternState" := B.1
  have hl : lv_has ls 3 [(0, .ref qx), (1, .int a1), (2, .int a2)] := hl
  refine lv_aload_n C.1 C.2.1 dX10_differ_0 rfl (lv_at hl 0 rfl) ?_
  refine lv_iload_n C.1 C.2.1 dX10_differ_1 rfl (lv_at hl 1 rfl) ?_
  refine x_calliV (As := [.int a1]) (rest := []) (wr := []) C hw (c_X10_isSlide qx a1 qt qs qd qa qb qh qr qe qp qf qn qi qo sslideNames spictures sheats safter shearerNames sneeds slikes shates snear) mwX10_isSlide kw649 [0, 1] [] rfl rfl rfl rfl (by decide) 0 rfl rfl rfl rfl hl.1 rfl (Nat.le_of_ble_eq_true rfl) ⟨(Nat.le_of_ble_eq_true rfl), (Nat.le_of_ble_eq_true rfl)⟩ ⟨(Nat.le_of_ble_eq_true rfl), (Nat.le_of_ble_eq_true rfl)⟩ dX10_differ_2 (fun r1 u9 H locs hp9 hw => ?_)
  obtain ⟨rfl, rfl⟩ := hp9
  have hw : Wd G s A [(qx, .inr (9, [.ref qt, .ref qs, .ref qd, .ref qa, .ref qb, .ref qh, .ref qr, .ref qe, .ref qp, .ref qf, .ref qn, .ref qi, .ref qo, .int 0, .int 0, .int (-1), .int (-1)])), (qs, .inr (4, [.int 0, .int 0, .int 0, .int 0, .int 1, .int 0, .int 40, .int 0, .int 0, .ref sslideNames, .ref spictures, .ref sheats, .ref safter, .ref shearerNames, .ref sneeds, .ref slikes, .ref shates, .ref snear]))] H _ := hw
  refine lv_if_eq (tgt := 16) C.1 C.2.1 dX10_differ_5 (by decide) (fun _ => ?_) (fun h9 => absurd (by decide) h9)
  refine lv_iconst (v := (-1)) C.1 C.2.1 dX10_differ_16 (by decide) ?_
  exact x_reti B hw ⟨rfl, rfl⟩ (Nat.le_of_ble_eq_true rfl) (Nat.le_of_ble_eq_true rfl) dX10_differ_17
theorem dX10_bill_0 : decode cX10_bill 0 = .ok (.aload_n 0, 1) := by decide +kernel
theorem dX10_bill_1 : decode cX10_bill 1 = .ok (.iload_n 1, 1) := by decide +kernel
theorem dX10_bill_2 : decode cX10_bill 2 = .ok (.invokevirtual 132, 3) := by decide +kernel
theorem dX10_bill_5 : decode cX10_bill 5 = .ok (.ifCond .ne 5, 3) := by decide +kernel
theorem dX10_bill_8 : decode cX10_bill 8 = .ok (.iconst (-1), 1) := by decide +kernel
theorem dX10_bill_9 : decode cX10_bill 9 = .ok (.ireturn, 1) := by decide +kernel
set_option maxHeartbeats 4000000 in
set_option maxRecDepth 100000 in
theorem c_X10_bill {l : Launch} {G : Gc} (qx : Nat) (a1 : Int32) (qt : Nat) (qs : Nat) (qd : Nat) (qa : Nat) (qb : Nat) (qh : Nat) (qr : Nat) (qe : Nat) (qp : Nat) (qf : Nat) (qn : Nat) (qi : Nat) (qo : Nat) (sslideNames : Nat) (spictures : Nat) (sheats : Nat) (safter : Nat) (shearerNames : Nat) (sneeds : Nat) (slikes : Nat) (shates : Nat) (snear : Nat)  : Ci l yX10_bill cX10_bill 2 (some .int) 1 0 0 G [.ref qx, .int a1] [(qx, .inr (9, [.ref qt, .ref qs, .ref qd, .ref qa, .ref qb, .ref qh, .ref qr, .ref qe, .ref qp, .ref qf, .ref qn, .ref qi, .ref qo, .int 0, .int 0, .int (-1), .int (-1)])), (qs, .inr (4, [.int 0, .int 0, .int 0, .int 0, .int 1, .int 0, .int 40, .int 0, .int 0, .ref sslideNames, .ref spictures, .ref sheats, .ref safter, .ref shearerNames, .ref sneeds, .ref slikes, .ref shates, .ref snear]))] (fun (r9 : Int32) (u9 : va_W) => r9 = (-1) ∧ u9 = [(qx, .inr (9, [.ref qt, .ref qs, .ref qd, .ref qa, .ref qb, .ref qh, .ref qr, .ref qe, .ref qp, .ref qf, .ref qn, .ref qi, .ref qo, .int 0, .int 0, .int (-1), .int (-1)])), (qs, .inr (4, [.int 0, .int 0, .int 0, .int 0, .int 1, .int 0, .int 40, .int 0, .int 0, .ref sslideNames, .ref spictures, .ref sheats, .ref safter, .ref shearerNames, .ref sneeds, .ref slikes, .ref shates, .ref snear]))]) := by
  refine Ci.of (by decide) (Nat.le_of_ble_eq_true rfl) ?_
  intro p e s m below meth c ls A B hw hl
  have C : CallFix p m c cX10_bill 2 s _ gw "LanternState" := B.1
  have hl : lv_has ls 2 [(0, .ref qx), (1, .int a1)] := hl
  refine lv_aload_n C.1 C.2.1 dX10_bill_0 rfl (lv_at hl 0 rfl) ?_
  refine lv_iload_n C.1 C.2.1 dX10_bill_1 rfl (lv_at hl 1 rfl) ?_
  refine x_calliV (As := [.int a1]) (rest := []) (wr := []) C hw (c_X10_isSlide qx a1 qt qs qd qa qb qh qr qe qp qf qn qi qo sslideNames spictures sheats safter shearerNames sneeds slikes shates snear) mwX10_isSlide kw649 [0, 1] [] rfl rfl rfl rfl (by decide) 0 rfl rfl rfl rfl hl.1 rfl (Nat.le_of_ble_eq_true rfl) ⟨(Nat.le_of_ble_eq_true rfl), (Nat.le_of_ble_eq_true rfl)⟩ ⟨(Nat.le_of_ble_eq_true rfl), (Nat.le_of_ble_eq_true rfl)⟩ dX10_bill_2 (fun r1 u9 H locs hp9 hw => ?_)
  obtain ⟨rfl, rfl⟩ := hp9
  have hw : Wd G s A [(qx, .inr (9, [.ref qt, .ref qs, .ref qd, .ref qa, .ref qb, .ref qh, .ref qr, .ref qe, .ref qp, .ref qf, .ref qn, .ref qi, .ref qo, .int 0, .int 0, .int (-1), .int (-1)])), (qs, .inr (4, [.int 0, .int 0, .int 0, .int 0, .int 1, .int 0, .int 40, .int 0, .int 0, .ref sslideNames, .ref spictures, .ref sheats, .ref safter, .ref shearerNames, .ref sneeds, .ref slikes, .ref shates, .ref snear]))] H _ := hw
  refine lv_if_ne (tgt := 10) C.1 C.2.1 dX10_bill_5 (by decide) (fun h9 => absurd (by decide) h9) (fun _ => ?_)
  refine lv_iconst (v := (-1)) C.1 C.2.1 dX10_bill_8 (by decide) ?_
  exact x_reti B hw ⟨rfl, rfl⟩ (Nat.le_of_ble_eq_true rfl) (Nat.le_of_ble_eq_true rfl) dX10_bill_9
theorem dX10_odds_0 : decode cX10_odds 0 = .ok (.aload_n 0, 1) := by decide +kernel
theorem dX10_odds_1 : decode cX10_odds 1 = .ok (.iload_n 1, 1) := by decide +kernel
theorem dX10_odds_2 : decode cX10_odds 2 = .ok (.invokevirtual 132, 3) := by decide +kernel
theorem dX10_odds_5 : decode cX10_odds 5 = .ok (.ifCond .eq 14, 3) := by decide +kernel
theorem dX10_odds_19 : decode cX10_odds 19 = .ok (.iconst (-1), 1) := by decide +kernel
theorem dX10_odds_20 : decode cX10_odds 20 = .ok (.ireturn, 1) := by decide +kernel
set_option maxHeartbeats 4000000 in
set_option maxRecDepth 100000 in
theorem c_X10_odds {l : Launch} {G : Gc} (qx : Nat) (a1 : Int32) (a2 : Int32) (a3 : Int32) (qt : Nat) (qs : Nat) (qd : Nat) (qa : Nat) (qb : Nat) (qh : Nat) (qr : Nat) (qe : Nat) (qp : Nat) (qf : Nat) (qn : Nat) (qi : Nat) (qo : Nat) (sslideNames : Nat) (spictures : Nat) (sheats : Nat) (safter : Nat) (shearerNames : Nat) (sneeds : Nat) (slikes : Nat) (shates : Nat) (snear : Nat)  : Ci l yX10_odds cX10_odds 6 (some .int) 1 0 0 G [.ref qx, .int a1, .int a2, .int a3] [(qx, .inr (9, [.ref qt, .ref qs, .ref qd, .ref qa, .ref qb, .ref qh, .ref qr, .ref qe, .ref qp, .ref qf, .ref qn, .ref qi, .ref qo, .int 0, .int 0, .int (-1), .int (-1)])), (qs, .inr (4, [.int 0, .int 0, .int 0, .int 0, .int 1, .int 0, .int 40, .int 0, .int 0, .ref sslideNames, .ref spictures, .ref sheats, .ref safter, .ref shearerNames, .ref sneeds, .ref slikes, .ref shates, .ref snear]))] (fun (r9 : Int32) (u9 : va_W) => r9 = (-1) ∧ u9 = [(qx, .inr (9, [.ref qt, .ref qs, .ref qd, .ref qa, .ref qb, .ref qh, .ref qr, .ref qe, .ref qp, .ref qf, .ref qn, .ref qi, .ref qo, .int 0, .int 0, .int (-1), .int (-1)])), (qs, .inr (4, [.int 0, .int 0, .int 0, .int 0, .int 1, .int 0, .int 40, .int 0, .int 0, .ref sslideNames, .ref spictures, .ref sheats, .ref safter, .ref shearerNames, .ref sneeds, .ref slikes, .ref shates, .ref snear]))]) := by
  refine Ci.of (by decide) (Nat.le_of_ble_eq_true rfl) ?_
  intro p e s m below meth c ls A B hw hl
  have C : CallFix p m c cX10_odds 6 s _ gw "LanternState" := B.1
  have hl : lv_has ls 6 [(0, .ref qx), (1, .int a1), (2, .int a2), (3, .int a3)] := hl
  refine lv_aload_n C.1 C.2.1 dX10_odds_0 rfl (lv_at hl 0 rfl) ?_
  refine lv_iload_n C.1 C.2.1 dX10_odds_1 rfl (lv_at hl 1 rfl) ?_
  refine x_calliV (As := [.int a1]) (rest := []) (wr := []) C hw (c_X10_isSlide qx a1 qt qs qd qa qb qh qr qe qp qf qn qi qo sslideNames spictures sheats safter shearerNames sneeds slikes shates snear) mwX10_isSlide kw649 [0, 1] [] rfl rfl rfl rfl (by decide) 0 rfl rfl rfl rfl hl.1 rfl (Nat.le_of_ble_eq_true rfl) ⟨(Nat.le_of_ble_eq_true rfl), (Nat.le_of_ble_eq_true rfl)⟩ ⟨(Nat.le_of_ble_eq_true rfl), (Nat.le_of_ble_eq_true rfl)⟩ dX10_odds_2 (fun r1 u9 H locs hp9 hw => ?_)
  obtain ⟨rfl, rfl⟩ := hp9
  have hw : Wd G s A [(qx, .inr (9, [.ref qt, .ref qs, .ref qd, .ref qa, .ref qb, .ref qh, .ref qr, .ref qe, .ref qp, .ref qf, .ref qn, .ref qi, .ref qo, .int 0, .int 0, .int (-1), .int (-1)])), (qs, .inr (4, [.int 0, .int 0, .int 0, .int 0, .int 1, .int 0, .int 40, .int 0, .int 0, .ref sslideNames, .ref spictures, .ref sheats, .ref safter, .ref shearerNames, .ref sneeds, .ref slikes, .ref shates, .ref snear]))] H _ := hw
  refine lv_if_eq (tgt := 19) C.1 C.2.1 dX10_odds_5 (by decide) (fun _ => ?_) (fun h9 => absurd (by decide) h9)
  refine lv_iconst (v := (-1)) C.1 C.2.1 dX10_odds_19 (by decide) ?_
  exact x_reti B hw ⟨rfl, rfl⟩ (Nat.le_of_ble_eq_true rfl) (Nat.le_of_ble_eq_true rfl) dX10_odds_20
theorem dX10_thinks_0 : decode cX10_thinks 0 = .ok (.aload_n 0, 1) := by decide +kernel
theorem dX10_thinks_1 : decode cX10_thinks 1 = .ok (.iload_n 1, 1) := by decide +kernel
theorem dX10_thinks_2 : decode cX10_thinks 2 = .ok (.invokevirtual 188, 3) := by decide +kernel
theorem mwX10_isHearer : MwV yX10_isHearer cX10_isHearer 2 (some .boolean) 1 := ⟨⟨kw680, kw1, by decide +kernel⟩, kw679, kS14⟩
theorem dX10_thinks_5 : decode cX10_thinks 5 = .ok (.ifCond .eq 17, 3) := by decide +kernel
theorem dX10_thinks_22 : decode cX10_thinks 22 = .ok (.iconst (-1), 1) := by decide +kernel
theorem dX10_thinks_23 : decode cX10_thinks 23 = .ok (.ireturn, 1) := by decide +kernel
set_option maxHeartbeats 4000000 in
set_option maxRecDepth 100000 in
theorem c_X10_thinks {l : Launch} {G : Gc} (qx : Nat) (a1 : Int32) (a2 : Int32) (a3 : Int32) (qt : Nat) (qs : Nat) (qd : Nat) (qa : Nat) (qb : Nat) (qh : Nat) (qr : Nat) (qe : Nat) (qp : Nat) (qf : Nat) (qn : Nat) (qi : Nat) (qo : Nat) (sslideNames : Nat) (spictures : Nat) (sheats : Nat) (safter : Nat) (shearerNames : Nat) (sneeds : Nat) (slikes : Nat) (shates : Nat) (snear : Nat)  : Ci l yX10_thinks cX10_thinks 5 (some .int) 1 0 0 G [.ref qx, .int a1, .int a2, .int a3] [(qx, .inr (9, [.ref qt, .ref qs, .ref qd, .ref qa, .ref qb, .ref qh, .ref qr, .ref qe, .ref qp, .ref qf, .ref qn, .ref qi, .ref qo, .int 0, .int 0, .int (-1), .int (-1)])), (qs, .inr (4, [.int 0, .int 0, .int 0, .int 0, .int 1, .int 0, .int 40, .int 0, .int 0, .ref sslideNames, .ref spictures, .ref sheats, .ref safter, .ref shearerNames, .ref sneeds, .ref slikes, .ref shates, .ref snear]))] (fun (r9 : Int32) (u9 : va_W) => r9 = (-1) ∧ u9 = [(qx, .inr (9, [.ref qt, .ref qs, .ref qd, .ref qa, .ref qb, .ref qh, .ref qr, .ref qe, .ref qp, .ref qf, .ref qn, .ref qi, .ref qo, .int 0, .int 0, .int (-1), .int (-1)])), (qs, .inr (4, [.int 0, .int 0, .int 0, .int 0, .int 1, .int 0, .int 40, .int 0, .int 0, .ref sslideNames, .ref spictures, .ref sheats, .ref safter, .ref shearerNames, .ref sneeds, .ref slikes, .ref shates, .ref snear]))]) := by
  refine Ci.of (by decide) (Nat.le_of_ble_eq_true rfl) ?_
  intro p e s m below meth c ls A B hw hl
  have C : CallFix p m c cX10_thinks 5 s _ gw "LanternState" := B.1
  have hl : lv_has ls 5 [(0, .ref qx), (1, .int a1), (2, .int a2), (3, .int a3)] := hl
  refine lv_aload_n C.1 C.2.1 dX10_thinks_0 rfl (lv_at hl 0 rfl) ?_
  refine lv_iload_n C.1 C.2.1 dX10_thinks_1 rfl (lv_at hl 1 rfl) ?_
  refine x_calliV (As := [.int a1]) (rest := []) (wr := []) C hw (c_X10_isHearer qx a1 qt qs qd qa qb qh qr qe qp qf qn qi qo sslideNames spictures sheats safter shearerNames sneeds slikes shates snear) mwX10_isHearer kw677 [0, 1] [] rfl rfl rfl rfl (by decide) 0 rfl rfl rfl rfl hl.1 rfl (Nat.le_of_ble_eq_true rfl) ⟨(Nat.le_of_ble_eq_true rfl), (Nat.le_of_ble_eq_true rfl)⟩ ⟨(Nat.le_of_ble_eq_true rfl), (Nat.le_of_ble_eq_true rfl)⟩ dX10_thinks_2 (fun r1 u9 H locs hp9 hw => ?_)
  obtain ⟨rfl, rfl⟩ := hp9
  have hw : Wd G s A [(qx, .inr (9, [.ref qt, .ref qs, .ref qd, .ref qa, .ref qb, .ref qh, .ref qr, .ref qe, .ref qp, .ref qf, .ref qn, .ref qi, .ref qo, .int 0, .int 0, .int (-1), .int (-1)])), (qs, .inr (4, [.int 0, .int 0, .int 0, .int 0, .int 1, .int 0, .int 40, .int 0, .int 0, .ref sslideNames, .ref spictures, .ref sheats, .ref safter, .ref shearerNames, .ref sneeds, .ref slikes, .ref shates, .ref snear]))] H _ := hw
  refine lv_if_eq (tgt := 22) C.1 C.2.1 dX10_thinks_5 (by decide) (fun _ => ?_) (fun h9 => absurd (by decide) h9)
  refine lv_iconst (v := (-1)) C.1 C.2.1 dX10_thinks_22 (by decide) ?_
  exact x_reti B hw ⟨rfl, rfl⟩ (Nat.le_of_ble_eq_true rfl) (Nat.le_of_ble_eq_true rfl) dX10_thinks_23
theorem dX10_sit_0 : decode cX10_sit 0 = .ok (.aload_n 0, 1) := by decide +kernel
theorem dX10_sit_1 : decode cX10_sit 1 = .ok (.iload_n 1, 1) := by decide +kernel
theorem dX10_sit_2 : decode cX10_sit 2 = .ok (.invokevirtual 188, 3) := by decide +kernel
theorem dX10_sit_5 : decode cX10_sit 5 = .ok (.ifCond .eq 10, 3) := by decide +kernel
theorem dX10_sit_15 : decode cX10_sit 15 = .ok (.iconst (-1), 1) := by decide +kernel
theorem dX10_sit_16 : decode cX10_sit 16 = .ok (.ireturn, 1) := by decide +kernel
set_option maxHeartbeats 4000000 in
set_option maxRecDepth 100000 in
theorem c_X10_sit {l : Launch} {G : Gc} (qx : Nat) (a1 : Int32) (a2 : Int32) (qt : Nat) (qs : Nat) (qd : Nat) (qa : Nat) (qb : Nat) (qh : Nat) (qr : Nat) (qe : Nat) (qp : Nat) (qf : Nat) (qn : Nat) (qi : Nat) (qo : Nat) (sslideNames : Nat) (spictures : Nat) (sheats : Nat) (safter : Nat) (shearerNames : Nat) (sneeds : Nat) (slikes : Nat) (shates : Nat) (snear : Nat)  : Ci l yX10_sit cX10_sit 4 (some .int) 1 0 0 G [.ref qx, .int a1, .int a2] [(qx, .inr (9, [.ref qt, .ref qs, .ref qd, .ref qa, .ref qb, .ref qh, .ref qr, .ref qe, .ref qp, .ref qf, .ref qn, .ref qi, .ref qo, .int 0, .int 0, .int (-1), .int (-1)])), (qs, .inr (4, [.int 0, .int 0, .int 0, .int 0, .int 1, .int 0, .int 40, .int 0, .int 0, .ref sslideNames, .ref spictures, .ref sheats, .ref safter, .ref shearerNames, .ref sneeds, .ref slikes, .ref shates, .ref snear]))] (fun (r9 : Int32) (u9 : va_W) => r9 = (-1) ∧ u9 = [(qx, .inr (9, [.ref qt, .ref qs, .ref qd, .ref qa, .ref qb, .ref qh, .ref qr, .ref qe, .ref qp, .ref qf, .ref qn, .ref qi, .ref qo, .int 0, .int 0, .int (-1), .int (-1)])), (qs, .inr (4, [.int 0, .int 0, .int 0, .int 0, .int 1, .int 0, .int 40, .int 0, .int 0, .ref sslideNames, .ref spictures, .ref sheats, .ref safter, .ref shearerNames, .ref sneeds, .ref slikes, .ref shates, .ref snear]))]) := by
  refine Ci.of (by decide) (Nat.le_of_ble_eq_true rfl) ?_
  intro p e s m below meth c ls A B hw hl
  have C : CallFix p m c cX10_sit 4 s _ gw "LanternState" := B.1
  have hl : lv_has ls 4 [(0, .ref qx), (1, .int a1), (2, .int a2)] := hl
  refine lv_aload_n C.1 C.2.1 dX10_sit_0 rfl (lv_at hl 0 rfl) ?_
  refine lv_iload_n C.1 C.2.1 dX10_sit_1 rfl (lv_at hl 1 rfl) ?_
  refine x_calliV (As := [.int a1]) (rest := []) (wr := []) C hw (c_X10_isHearer qx a1 qt qs qd qa qb qh qr qe qp qf qn qi qo sslideNames spictures sheats safter shearerNames sneeds slikes shates snear) mwX10_isHearer kw677 [0, 1] [] rfl rfl rfl rfl (by decide) 0 rfl rfl rfl rfl hl.1 rfl (Nat.le_of_ble_eq_true rfl) ⟨(Nat.le_of_ble_eq_true rfl), (Nat.le_of_ble_eq_true rfl)⟩ ⟨(Nat.le_of_ble_eq_true rfl), (Nat.le_of_ble_eq_true rfl)⟩ dX10_sit_2 (fun r1 u9 H locs hp9 hw => ?_)
  obtain ⟨rfl, rfl⟩ := hp9
  have hw : Wd G s A [(qx, .inr (9, [.ref qt, .ref qs, .ref qd, .ref qa, .ref qb, .ref qh, .ref qr, .ref qe, .ref qp, .ref qf, .ref qn, .ref qi, .ref qo, .int 0, .int 0, .int (-1), .int (-1)])), (qs, .inr (4, [.int 0, .int 0, .int 0, .int 0, .int 1, .int 0, .int 40, .int 0, .int 0, .ref sslideNames, .ref spictures, .ref sheats, .ref safter, .ref shearerNames, .ref sneeds, .ref slikes, .ref shates, .ref snear]))] H _ := hw
  refine lv_if_eq (tgt := 15) C.1 C.2.1 dX10_sit_5 (by decide) (fun _ => ?_) (fun h9 => absurd (by decide) h9)
  refine lv_iconst (v := (-1)) C.1 C.2.1 dX10_sit_15 (by decide) ?_
  exact x_reti B hw ⟨rfl, rfl⟩ (Nat.le_of_ble_eq_true rfl) (Nat.le_of_ble_eq_true rfl) dX10_sit_16
def nowF (x : Int32) : Int32 := if x = 0 then 0 else if x = 1 then 0 else if x = 2 then 0 else if x = 3 then 0 else if x = 4 then 0 else if x = 5 then 0 else if x = 6 then 0 else -1
def countF (x : Int32) : Int32 := if x = 0 then 0 else if x = 1 then 0 else if x = 2 then 0 else if x = 3 then 1 else if x = 4 then 0 else if x = 5 then 40 else if x = 6 then 0 else -1
theorem dX10_now_0 : decode cX10_now 0 = .ok (.iload_n 1, 1) := by decide +kernel
theorem dX10_now_1 : decode cX10_now 1 = .ok (.tableswitch 107 0 6 #[43, 51, 59, 75, 83, 91, 99], 43) := by decide +kernel
theorem dX10_now_44 : decode cX10_now 44 = .ok (.aload_n 0, 1) := by decide +kernel
theorem dX10_now_45 : decode cX10_now 45 = .ok (.getfield 29, 3) := by decide +kernel
theorem dX10_now_48 : decode cX10_now 48 = .ok (.getfield 214, 3) := by decide +kernel
theorem dX10_now_51 : decode cX10_now 51 = .ok (.ireturn, 1) := by decide +kernel
theorem dX10_now_52 : decode cX10_now 52 = .ok (.aload_n 0, 1) := by decide +kernel
theorem dX10_now_53 : decode cX10_now 53 = .ok (.getfield 29, 3) := by decide +kernel
theorem dX10_now_56 : decode cX10_now 56 = .ok (.getfield 217, 3) := by decide +kernel
theorem dX10_now_59 : decode cX10_now 59 = .ok (.ireturn, 1) := by decide +kernel
theorem dX10_now_60 : decode cX10_now 60 = .ok (.aload_n 0, 1) := by decide +kernel
theorem dX10_now_61 : decode cX10_now 61 = .ok (.getfield 29, 3) := by decide +kernel
theorem dX10_now_64 : decode cX10_now 64 = .ok (.getfield 220, 3) := by decide +kernel
theorem dX10_now_67 : decode cX10_now 67 = .ok (.ifCond .eq 7, 3) := by decide +kernel
theorem dX10_now_74 : decode cX10_now 74 = .ok (.iconst 0, 1) := by decide +kernel
theorem dX10_now_75 : decode cX10_now 75 = .ok (.ireturn, 1) := by decide +kernel
theorem dX10_now_76 : decode cX10_now 76 = .ok (.aload_n 0, 1) := by decide +kernel
theorem dX10_now_77 : decode cX10_now 77 = .ok (.getfield 29, 3) := by decide +kernel
theorem dX10_now_80 : decode cX10_now 80 = .ok (.getfield 149, 3) := by decide +kernel
theorem dX10_now_83 : decode cX10_now 83 = .ok (.ireturn, 1) := by decide +kernel
theorem dX10_now_84 : decode cX10_now 84 = .ok (.aload_n 0, 1) := by decide +kernel
theorem dX10_now_85 : decode cX10_now 85 = .ok (.getfield 29, 3) := by decide +kernel
theorem dX10_now_88 : decode cX10_now 88 = .ok (.getfield 152, 3) := by decide +kernel
theorem dX10_now_91 : decode cX10_now 91 = .ok (.ireturn, 1) := by decide +kernel
theorem dX10_now_92 : decode cX10_now 92 = .ok (.aload_n 0, 1) := by decide +kernel
theorem dX10_now_93 : decode cX10_now 93 = .ok (.getfield 29, 3) := by decide +kernel
theorem dX10_now_96 : decode cX10_now 96 = .ok (.getfield 208, 3) := by decide +kernel
theorem dX10_now_99 : decode cX10_now 99 = .ok (.ireturn, 1) := by decide +kernel
theorem dX10_now_100 : decode cX10_now 100 = .ok (.aload_n 0, 1) := by decide +kernel
theorem dX10_now_101 : decode cX10_now 101 = .ok (.getfield 29, 3) := by decide +kernel
theorem dX10_now_104 : decode cX10_now 104 = .ok (.getfield 223, 3) := by decide +kernel
theorem dX10_now_107 : decode cX10_now 107 = .ok (.ireturn, 1) := by decide +kernel
theorem dX10_now_108 : decode cX10_now 108 = .ok (.iconst (-1), 1) := by decide +kernel
theorem dX10_now_109 : decode cX10_now 109 = .ok (.ireturn, 1) := by decide +kernel
set_option maxHeartbeats 4000000 in
set_option maxRecDepth 100000 in
theorem c_X10_now {l : Launch} {G : Gc} (qx : Nat) (w9 : Int32) (qt : Nat) (qs : Nat) (qd : Nat) (qa : Nat) (qb : Nat) (qh : Nat) (qr : Nat) (qe : Nat) (qp : Nat) (qf : Nat) (qn : Nat) (qi : Nat) (qo : Nat) (apictures : Nat) (ashown : Nat) (asighed : Nat)  : Ci l yX10_now cX10_now 2 (some .int) 0 0 0 G [.ref qx, .int w9] [(qx, .inr (9, [.ref qt, .ref qs, .ref qd, .ref qa, .ref qb, .ref qh, .ref qr, .ref qe, .ref qp, .ref qf, .ref qn, .ref qi, .ref qo, .int 0, .int 0, .int (-1), .int (-1)])), (qa, .inr (7, [.int 0, .int 0, .int 0, .int 0, .int 0, .int 0, .int 0, .int 0, .ref apictures, .ref ashown, .ref asighed]))] (fun (r9 : Int32) (u9 : va_W) => r9 = (nowF w9) ∧ u9 = [(qx, .inr (9, [.ref qt, .ref qs, .ref qd, .ref qa, .ref qb, .ref qh, .ref qr, .ref qe, .ref qp, .ref qf, .ref qn, .ref qi, .ref qo, .int 0, .int 0, .int (-1), .int (-1)])), (qa, .inr (7, [.int 0, .int 0, .int 0, .int 0, .int 0, .int 0, .int 0, .int 0, .ref apictures, .ref ashown, .ref asighed]))]) := by
  refine Ci.of (by decide) (Nat.le_of_ble_eq_true rfl) ?_
  intro p e s m below meth c ls A B hw hl
  have C : CallFix p m c cX10_now 2 s _ gw "LanternState" := B.1
  have hl : lv_has ls 2 [(0, .ref qx), (1, .int w9)] := hl
  refine lv_iload_n C.1 C.2.1 dX10_now_0 rfl (lv_at hl 1 rfl) ?_
  by_cases hk1 : w9 = 0
  · skip
    subst hk1
    refine lv_tableIn (off := 43) (tgt := 44) C.1 C.2.1 dX10_now_1 (by decide) (by decide) rfl (by decide) ?_
    refine lv_aload_n C.1 C.2.1 dX10_now_44 rfl (lv_at hl 0 rfl) ?_
    refine x_get C hw iwX10 9 rfl 0 rfl 3 (by decide) kw449 rfl dX10_now_45 ?_
    refine x_get C hw iwX8 7 rfl 1 rfl 0 (by decide) kw239 rfl dX10_now_48 ?_
    exact x_reti B hw ⟨rfl, rfl⟩ (Nat.le_of_ble_eq_true rfl) (Nat.le_of_ble_eq_true rfl) dX10_now_51
  by_cases hk2 : w9 = 1
  · skip
    subst hk2
    refine lv_tableIn (off := 51) (tgt := 52) C.1 C.2.1 dX10_now_1 (by decide) (by decide) rfl (by decide) ?_
    refine lv_aload_n C.1 C.2.1 dX10_now_52 rfl (lv_at hl 0 rfl) ?_
    refine x_get C hw iwX10 9 rfl 0 rfl 3 (by decide) kw449 rfl dX10_now_53 ?_
    refine x_get C hw iwX8 7 rfl 1 rfl 1 (by decide) kw242 rfl dX10_now_56 ?_
    exact x_reti B hw ⟨rfl, rfl⟩ (Nat.le_of_ble_eq_true rfl) (Nat.le_of_ble_eq_true rfl) dX10_now_59
  by_cases hk3 : w9 = 2
  · skip
    subst hk3
    refine lv_tableIn (off := 59) (tgt := 60) C.1 C.2.1 dX10_now_1 (by decide) (by decide) rfl (by decide) ?_
    refine lv_aload_n C.1 C.2.1 dX10_now_60 rfl (lv_at hl 0 rfl) ?_
    refine x_get C hw iwX10 9 rfl 0 rfl 3 (by decide) kw449 rfl dX10_now_61 ?_
    refine x_get C hw iwX8 7 rfl 1 rfl 2 (by decide) kw245 rfl dX10_now_64 ?_
    refine lv_if_eq (tgt := 74) C.1 C.2.1 dX10_now_67 (by decide) (fun _ => ?_) (fun h9 => absurd (by decide) h9)
    refine lv_iconst (v := 0) C.1 C.2.1 dX10_now_74 (by decide) ?_
    exact x_reti B hw ⟨rfl, rfl⟩ (Nat.le_of_ble_eq_true rfl) (Nat.le_of_ble_eq_true rfl) dX10_now_75
  by_cases hk4 : w9 = 3
  · skip
    subst hk4
    refine lv_tableIn (off := 75) (tgt := 76) C.1 C.2.1 dX10_now_1 (by decide) (by decide) rfl (by decide) ?_
    refine lv_aload_n C.1 C.2.1 dX10_now_76 rfl (lv_at hl 0 rfl) ?_
    refine x_get C hw iwX10 9 rfl 0 rfl 3 (by decide) kw449 rfl dX10_now_77 ?_
    refine x_get C hw iwX8 7 rfl 1 rfl 3 (by decide) kw249 rfl dX10_now_80 ?_
    exact x_reti B hw ⟨rfl, rfl⟩ (Nat.le_of_ble_eq_true rfl) (Nat.le_of_ble_eq_true rfl) dX10_now_83
  by_cases hk5 : w9 = 4
  · skip
    subst hk5
    refine lv_tableIn (off := 83) (tgt := 84) C.1 C.2.1 dX10_now_1 (by decide) (by decide) rfl (by decide) ?_
    refine lv_aload_n C.1 C.2.1 dX10_now_84 rfl (lv_at hl 0 rfl) ?_
    refine x_get C hw iwX10 9 rfl 0 rfl 3 (by decide) kw449 rfl dX10_now_85 ?_
    refine x_get C hw iwX8 7 rfl 1 rfl 4 (by decide) kw254 rfl dX10_now_88 ?_
    exact x_reti B hw ⟨rfl, rfl⟩ (Nat.le_of_ble_eq_true rfl) (Nat.le_of_ble_eq_true rfl) dX10_now_91
  by_cases hk6 : w9 = 5
  · skip
    subst hk6
    refine lv_tableIn (off := 91) (tgt := 92) C.1 C.2.1 dX10_now_1 (by decide) (by decide) rfl (by decide) ?_
    refine lv_aload_n C.1 C.2.1 dX10_now_92 rfl (lv_at hl 0 rfl) ?_
    refine x_get C hw iwX10 9 rfl 0 rfl 3 (by decide) kw449 rfl dX10_now_93 ?_
    refine x_get C hw iwX8 7 rfl 1 rfl 5 (by decide) kw258 rfl dX10_now_96 ?_
    exact x_reti B hw ⟨rfl, rfl⟩ (Nat.le_of_ble_eq_true rfl) (Nat.le_of_ble_eq_true rfl) dX10_now_99
  by_cases hk7 : w9 = 6
  · skip
    subst hk7
    refine lv_tableIn (off := 99) (tgt := 100) C.1 C.2.1 dX10_now_1 (by decide) (by decide) rfl (by decide) ?_
    refine lv_aload_n C.1 C.2.1 dX10_now_100 rfl (lv_at hl 0 rfl) ?_
    refine x_get C hw iwX10 9 rfl 0 rfl 3 (by decide) kw449 rfl dX10_now_101 ?_
    refine x_get C hw iwX8 7 rfl 1 rfl 6 (by decide) kw261 rfl dX10_now_104 ?_
    exact x_reti B hw ⟨rfl, rfl⟩ (Nat.le_of_ble_eq_true rfl) (Nat.le_of_ble_eq_true rfl) dX10_now_107
  refine lv_tableOut (tgt := 108) C.1 C.2.1 dX10_now_1 (by have t0 := x_ne hk1 (z := 0) rfl; have t1 := x_ne hk2 (z := 1) rfl; have t2 := x_ne hk3 (z := 2) rfl; have t3 := x_ne hk4 (z := 3) rfl; have t4 := x_ne hk5 (z := 4) rfl; have t5 := x_ne hk6 (z := 5) rfl; have t6 := x_ne hk7 (z := 6) rfl; omega) (by decide) ?_
  refine lv_iconst (v := (-1)) C.1 C.2.1 dX10_now_108 (by decide) ?_
  exact x_reti B hw ⟨(by unfold nowF; rw [if_neg hk1, if_neg hk2, if_neg hk3, if_neg hk4, if_neg hk5, if_neg hk6, if_neg hk7]), rfl⟩ (Nat.le_of_ble_eq_true rfl) (Nat.le_of_ble_eq_true rfl) dX10_now_109
theorem dX10_count_0 : decode cX10_count 0 = .ok (.iload_n 1, 1) := by decide +kernel
theorem dX10_count_1 : decode cX10_count 1 = .ok (.tableswitch 99 0 6 #[43, 51, 59, 67, 75, 83, 91], 43) := by decide +kernel
theorem dX10_count_44 : decode cX10_count 44 = .ok (.aload_n 0, 1) := by decide +kernel
theorem dX10_count_45 : decode cX10_count 45 = .ok (.getfield 19, 3) := by decide +kernel
theorem dX10_count_48 : decode cX10_count 48 = .ok (.getfield 284, 3) := by decide +kernel
theorem dX10_count_51 : decode cX10_count 51 = .ok (.ireturn, 1) := by decide +kernel
theorem dX10_count_52 : decode cX10_count 52 = .ok (.aload_n 0, 1) := by decide +kernel
theorem dX10_count_53 : decode cX10_count 53 = .ok (.getfield 19, 3) := by decide +kernel
theorem dX10_count_56 : decode cX10_count 56 = .ok (.getfield 258, 3) := by decide +kernel
theorem dX10_count_59 : decode cX10_count 59 = .ok (.ireturn, 1) := by decide +kernel
theorem dX10_count_60 : decode cX10_count 60 = .ok (.aload_n 0, 1) := by decide +kernel
theorem dX10_count_61 : decode cX10_count 61 = .ok (.getfield 19, 3) := by decide +kernel
theorem dX10_count_64 : decode cX10_count 64 = .ok (.getfield 341, 3) := by decide +kernel
theorem dX10_count_67 : decode cX10_count 67 = .ok (.ireturn, 1) := by decide +kernel
theorem dX10_count_68 : decode cX10_count 68 = .ok (.aload_n 0, 1) := by decide +kernel
theorem dX10_count_69 : decode cX10_count 69 = .ok (.getfield 19, 3) := by decide +kernel
theorem dX10_count_72 : decode cX10_count 72 = .ok (.getfield 344, 3) := by decide +kernel
theorem dX10_count_75 : decode cX10_count 75 = .ok (.ireturn, 1) := by decide +kernel
theorem dX10_count_76 : decode cX10_count 76 = .ok (.aload_n 0, 1) := by decide +kernel
theorem dX10_count_77 : decode cX10_count 77 = .ok (.getfield 19, 3) := by decide +kernel
theorem dX10_count_80 : decode cX10_count 80 = .ok (.getfield 347, 3) := by decide +kernel
theorem dX10_count_83 : decode cX10_count 83 = .ok (.ireturn, 1) := by decide +kernel
theorem dX10_count_84 : decode cX10_count 84 = .ok (.aload_n 0, 1) := by decide +kernel
theorem dX10_count_85 : decode cX10_count 85 = .ok (.getfield 19, 3) := by decide +kernel
theorem dX10_count_88 : decode cX10_count 88 = .ok (.getfield 350, 3) := by decide +kernel
theorem dX10_count_91 : decode cX10_count 91 = .ok (.ireturn, 1) := by decide +kernel
theorem dX10_count_92 : decode cX10_count 92 = .ok (.aload_n 0, 1) := by decide +kernel
theorem dX10_count_93 : decode cX10_count 93 = .ok (.getfield 10, 3) := by decide +kernel
theorem dX10_count_96 : decode cX10_count 96 = .ok (.getfield 92, 3) := by decide +kernel
theorem dX10_count_99 : decode cX10_count 99 = .ok (.ireturn, 1) := by decide +kernel
theorem dX10_count_100 : decode cX10_count 100 = .ok (.iconst (-1), 1) := by decide +kernel
theorem dX10_count_101 : decode cX10_count 101 = .ok (.ireturn, 1) := by decide +kernel
set_option maxHeartbeats 4000000 in
set_option maxRecDepth 100000 in
theorem c_X10_count {l : Launch} {G : Gc} (qx : Nat) (w9 : Int32) (qt : Nat) (qs : Nat) (qd : Nat) (qa : Nat) (qb : Nat) (qh : Nat) (qr : Nat) (qe : Nat) (qp : Nat) (qf : Nat) (qn : Nat) (qi : Nat) (qo : Nat) (sslideNames : Nat) (spictures : Nat) (sheats : Nat) (safter : Nat) (shearerNames : Nat) (sneeds : Nat) (slikes : Nat) (shates : Nat) (snear : Nat) (kc : Nat) (bys : Nat)  : Ci l yX10_count cX10_count 2 (some .int) 0 0 0 G [.ref qx, .int w9] [(qx, .inr (9, [.ref qt, .ref qs, .ref qd, .ref qa, .ref qb, .ref qh, .ref qr, .ref qe, .ref qp, .ref qf, .ref qn, .ref qi, .ref qo, .int 0, .int 0, .int (-1), .int (-1)])), (qs, .inr (4, [.int 0, .int 0, .int 0, .int 0, .int 1, .int 0, .int 40, .int 0, .int 0, .ref sslideNames, .ref spictures, .ref sheats, .ref safter, .ref shearerNames, .ref sneeds, .ref slikes, .ref shates, .ref snear])), (qt, .inr (8, [.ref kc, .ref bys, .int 0, .int 0, .int 0, .int 0, .int 0, .int 0, .long 0, .int 0, .int 0, .int 0]))] (fun (r9 : Int32) (u9 : va_W) => r9 = (countF w9) ∧ u9 = [(qx, .inr (9, [.ref qt, .ref qs, .ref qd, .ref qa, .ref qb, .ref qh, .ref qr, .ref qe, .ref qp, .ref qf, .ref qn, .ref qi, .ref qo, .int 0, .int 0, .int (-1), .int (-1)])), (qs, .inr (4, [.int 0, .int 0, .int 0, .int 0, .int 1, .int 0, .int 40, .int 0, .int 0, .ref sslideNames, .ref spictures, .ref sheats, .ref safter, .ref shearerNames, .ref sneeds, .ref slikes, .ref shates, .ref snear])), (qt, .inr (8, [.ref kc, .ref bys, .int 0, .int 0, .int 0, .int 0, .int 0, .int 0, .long 0, .int 0, .int 0, .int 0]))]) := by
  refine Ci.of (by decide) (Nat.le_of_ble_eq_true rfl) ?_
  intro p e s m below meth c ls A B hw hl
  have C : CallFix p m c cX10_count 2 s _ gw "LanternState" := B.1
  have hl : lv_has ls 2 [(0, .ref qx), (1, .int w9)] := hl
  refine lv_iload_n C.1 C.2.1 dX10_count_0 rfl (lv_at hl 1 rfl) ?_
  by_cases hk1 : w9 = 0
  · skip
    subst hk1
    refine lv_tableIn (off := 43) (tgt := 44) C.1 C.2.1 dX10_count_1 (by decide) (by decide) rfl (by decide) ?_
    refine lv_aload_n C.1 C.2.1 dX10_count_44 rfl (lv_at hl 0 rfl) ?_
    refine x_get C hw iwX10 9 rfl 0 rfl 1 (by decide) kw447 rfl dX10_count_45 ?_
    refine x_get C hw iwX5 4 rfl 1 rfl 0 (by decide) kw151 rfl dX10_count_48 ?_
    exact x_reti B hw ⟨rfl, rfl⟩ (Nat.le_of_ble_eq_true rfl) (Nat.le_of_ble_eq_true rfl) dX10_count_51
  by_cases hk2 : w9 = 1
  · skip
    subst hk2
    refine lv_tableIn (off := 51) (tgt := 52) C.1 C.2.1 dX10_count_1 (by decide) (by decide) rfl (by decide) ?_
    refine lv_aload_n C.1 C.2.1 dX10_count_52 rfl (lv_at hl 0 rfl) ?_
    refine x_get C hw iwX10 9 rfl 0 rfl 1 (by decide) kw447 rfl dX10_count_53 ?_
    refine x_get C hw iwX5 4 rfl 1 rfl 1 (by decide) kw155 rfl dX10_count_56 ?_
    exact x_reti B hw ⟨rfl, rfl⟩ (Nat.le_of_ble_eq_true rfl) (Nat.le_of_ble_eq_true rfl) dX10_count_59
  by_cases hk3 : w9 = 2
  · skip
    subst hk3
    refine lv_tableIn (off := 59) (tgt := 60) C.1 C.2.1 dX10_count_1 (by decide) (by decide) rfl (by decide) ?_
    refine lv_aload_n C.1 C.2.1 dX10_count_60 rfl (lv_at hl 0 rfl) ?_
    refine x_get C hw iwX10 9 rfl 0 rfl 1 (by decide) kw447 rfl dX10_count_61 ?_
    refine x_get C hw iwX5 4 rfl 1 rfl 2 (by decide) kw157 rfl dX10_count_64 ?_
    exact x_reti B hw ⟨rfl, rfl⟩ (Nat.le_of_ble_eq_true rfl) (Nat.le_of_ble_eq_true rfl) dX10_count_67
  by_cases hk4 : w9 = 3
  · skip
    subst hk4
    refine lv_tableIn (off := 67) (tgt := 68) C.1 C.2.1 dX10_count_1 (by decide) (by decide) rfl (by decide) ?_
    refine lv_aload_n C.1 C.2.1 dX10_count_68 rfl (lv_at hl 0 rfl) ?_
    refine x_get C hw iwX10 9 rfl 0 rfl 1 (by decide) kw447 rfl dX10_count_69 ?_
    refine x_get C hw iwX5 4 rfl 1 rfl 4 (by decide) kw161 rfl dX10_count_72 ?_
    exact x_reti B hw ⟨rfl, rfl⟩ (Nat.le_of_ble_eq_true rfl) (Nat.le_of_ble_eq_true rfl) dX10_count_75
  by_cases hk5 : w9 = 4
  · skip
    subst hk5
    refine lv_tableIn (off := 75) (tgt := 76) C.1 C.2.1 dX10_count_1 (by decide) (by decide) rfl (by decide) ?_
    refine lv_aload_n C.1 C.2.1 dX10_count_76 rfl (lv_at hl 0 rfl) ?_
    refine x_get C hw iwX10 9 rfl 0 rfl 1 (by decide) kw447 rfl dX10_count_77 ?_
    refine x_get C hw iwX5 4 rfl 1 rfl 5 (by decide) kw163 rfl dX10_count_80 ?_
    exact x_reti B hw ⟨rfl, rfl⟩ (Nat.le_of_ble_eq_true rfl) (Nat.le_of_ble_eq_true rfl) dX10_count_83
  by_cases hk6 : w9 = 5
  · skip
    subst hk6
    refine lv_tableIn (off := 83) (tgt := 84) C.1 C.2.1 dX10_count_1 (by decide) (by decide) rfl (by decide) ?_
    refine lv_aload_n C.1 C.2.1 dX10_count_84 rfl (lv_at hl 0 rfl) ?_
    refine x_get C hw iwX10 9 rfl 0 rfl 1 (by decide) kw447 rfl dX10_count_85 ?_
    refine x_get C hw iwX5 4 rfl 1 rfl 6 (by decide) kw167 rfl dX10_count_88 ?_
    exact x_reti B hw ⟨rfl, rfl⟩ (Nat.le_of_ble_eq_true rfl) (Nat.le_of_ble_eq_true rfl) dX10_count_91
  by_cases hk7 : w9 = 6
  · skip
    subst hk7
    refine lv_tableIn (off := 91) (tgt := 92) C.1 C.2.1 dX10_count_1 (by decide) (by decide) rfl (by decide) ?_
    refine lv_aload_n C.1 C.2.1 dX10_count_92 rfl (lv_at hl 0 rfl) ?_
    refine x_get C hw iwX10 9 rfl 0 rfl 0 (by decide) kw446 rfl dX10_count_93 ?_
    refine x_get C hw iwX9 8 rfl 2 rfl 2 (by decide) kw90 rfl dX10_count_96 ?_
    exact x_reti B hw ⟨rfl, rfl⟩ (Nat.le_of_ble_eq_true rfl) (Nat.le_of_ble_eq_true rfl) dX10_count_99
  refine lv_tableOut (tgt := 100) C.1 C.2.1 dX10_count_1 (by have t0 := x_ne hk1 (z := 0) rfl; have t1 := x_ne hk2 (z := 1) rfl; have t2 := x_ne hk3 (z := 2) rfl; have t3 := x_ne hk4 (z := 3) rfl; have t4 := x_ne hk5 (z := 4) rfl; have t5 := x_ne hk6 (z := 5) rfl; have t6 := x_ne hk7 (z := 6) rfl; omega) (by decide) ?_
  refine lv_iconst (v := (-1)) C.1 C.2.1 dX10_count_100 (by decide) ?_
  exact x_reti B hw ⟨(by unfold countF; rw [if_neg hk1, if_neg hk2, if_neg hk3, if_neg hk4, if_neg hk5, if_neg hk6, if_neg hk7]), rfl⟩ (Nat.le_of_ble_eq_true rfl) (Nat.le_of_ble_eq_true rfl) dX10_count_101
theorem dX10_undo_0 : decode cX10_undo 0 = .ok (.aload_n 0, 1) := by decide +kernel
theorem dX10_undo_1 : decode cX10_undo 1 = .ok (.getfield 39, 3) := by decide +kernel
theorem dX10_undo_4 : decode cX10_undo 4 = .ok (.getfield 251, 3) := by decide +kernel
theorem dX10_undo_7 : decode cX10_undo 7 = .ok (.ifCond .ne 5, 3) := by decide +kernel
theorem dX10_undo_10 : decode cX10_undo 10 = .ok (.iconst (-1), 1) := by decide +kernel
theorem dX10_undo_11 : decode cX10_undo 11 = .ok (.ireturn, 1) := by decide +kernel
set_option maxHeartbeats 4000000 in
set_option maxRecDepth 100000 in
theorem c_X10_undo {l : Launch} {G : Gc} (qx : Nat) (qt : Nat) (qs : Nat) (qd : Nat) (qa : Nat) (qb : Nat) (qh : Nat) (qr : Nat) (qe : Nat) (qp : Nat) (qf : Nat) (qn : Nat) (qi : Nat) (qo : Nat) (hk : Nat)  : Ci l yX10_undo cX10_undo 1 (some .int) 0 0 0 G [.ref qx] [(qx, .inr (9, [.ref qt, .ref qs, .ref qd, .ref qa, .ref qb, .ref qh, .ref qr, .ref qe, .ref qp, .ref qf, .ref qn, .ref qi, .ref qo, .int 0, .int 0, .int (-1), .int (-1)])), (qh, .inr (2, [.ref hk, .int 0, .int 0]))] (fun (r9 : Int32) (u9 : va_W) => r9 = (-1) ∧ u9 = [(qx, .inr (9, [.ref qt, .ref qs, .ref qd, .ref qa, .ref qb, .ref qh, .ref qr, .ref qe, .ref qp, .ref qf, .ref qn, .ref qi, .ref qo, .int 0, .int 0, .int (-1), .int (-1)])), (qh, .inr (2, [.ref hk, .int 0, .int 0]))]) := by
  refine Ci.of (by decide) (Nat.le_of_ble_eq_true rfl) ?_
  intro p e s m below meth c ls A B hw hl
  have C : CallFix p m c cX10_undo 1 s _ gw "LanternState" := B.1
  have hl : lv_has ls 1 [(0, .ref qx)] := hl
  refine lv_aload_n C.1 C.2.1 dX10_undo_0 rfl (lv_at hl 0 rfl) ?_
  refine x_get C hw iwX10 9 rfl 0 rfl 5 (by decide) kw451 rfl dX10_undo_1 ?_
  refine x_get C hw iwX2 2 rfl 1 rfl 2 (by decide) kw306 rfl dX10_undo_4 ?_
  refine lv_if_ne (tgt := 12) C.1 C.2.1 dX10_undo_7 (by decide) (fun h9 => absurd (by decide) h9) (fun _ => ?_)
  refine lv_iconst (v := (-1)) C.1 C.2.1 dX10_undo_10 (by decide) ?_
  exact x_reti B hw ⟨rfl, rfl⟩ (Nat.le_of_ble_eq_true rfl) (Nat.le_of_ble_eq_true rfl) dX10_undo_11
theorem dX5_spreadFrom_0 : decode cX5_spreadFrom 0 = .ok (.iload_n 1, 1) := by decide +kernel
theorem dX5_spreadFrom_1 : decode cX5_spreadFrom 1 = .ok (.istore_n 2, 1) := by decide +kernel
theorem dX5_spreadFrom_2 : decode cX5_spreadFrom 2 = .ok (.iconst 0, 1) := by decide +kernel
theorem dX5_spreadFrom_3 : decode cX5_spreadFrom 3 = .ok (.istore_n 3, 1) := by decide +kernel
theorem dX5_spreadFrom_4 : decode cX5_spreadFrom 4 = .ok (.aload_n 0, 1) := by decide +kernel
theorem dX5_spreadFrom_5 : decode cX5_spreadFrom 5 = .ok (.getfield 59, 3) := by decide +kernel
theorem dX5_spreadFrom_8 : decode cX5_spreadFrom 8 = .ok (.ifCond .le 76, 3) := by decide +kernel
theorem dX5_spreadFrom_84 : decode cX5_spreadFrom 84 = .ok (.iload_n 2, 1) := by decide +kernel
theorem dX5_spreadFrom_85 : decode cX5_spreadFrom 85 = .ok (.ireturn, 1) := by decide +kernel
set_option maxHeartbeats 4000000 in
set_option maxRecDepth 100000 in
theorem c_X5_spreadFrom {l : Launch} {G : Gc} (qs : Nat) (w9 : Int32) (sslideNames : Nat) (spictures : Nat) (sheats : Nat) (safter : Nat) (shearerNames : Nat) (sneeds : Nat) (slikes : Nat) (shates : Nat) (snear : Nat)  : Ci l yX5_spreadFrom cX5_spreadFrom 6 (some .int) 0 0 0 G [.ref qs, .int w9] [(qs, .inr (4, [.int 0, .int 0, .int 0, .int 0, .int 1, .int 0, .int 40, .int 0, .int 0, .ref sslideNames, .ref spictures, .ref sheats, .ref safter, .ref shearerNames, .ref sneeds, .ref slikes, .ref shates, .ref snear]))] (fun (r9 : Int32) (u9 : va_W) => r9 = w9 ∧ u9 = [(qs, .inr (4, [.int 0, .int 0, .int 0, .int 0, .int 1, .int 0, .int 40, .int 0, .int 0, .ref sslideNames, .ref spictures, .ref sheats, .ref safter, .ref shearerNames, .ref sneeds, .ref slikes, .ref shates, .ref snear]))]) := by
  refine Ci.of (by decide) (Nat.le_of_ble_eq_true rfl) ?_
  intro p e s m below meth c ls A B hw hl
  have C : CallFix p m c cX5_spreadFrom 6 s _ gw "LanternState$Scene" := B.1
  have hl : lv_has ls 6 [(0, .ref qs), (1, .int w9)] := hl
  refine lv_iload_n C.1 C.2.1 dX5_spreadFrom_0 rfl (lv_at hl 1 rfl) ?_
  refine lv_istore_n (lv' := [(2, .int w9), (0, .ref qs), (1, .int w9)]) C.1 C.2.1 dX5_spreadFrom_1 rfl hl (by decide) rfl (fun ls hl => ?_)
  refine lv_iconst (v := 0) C.1 C.2.1 dX5_spreadFrom_2 (by decide) ?_
  refine lv_istore_n (lv' := [(3, .int 0), (2, .int w9), (0, .ref qs), (1, .int w9)]) C.1 C.2.1 dX5_spreadFrom_3 rfl hl (by decide) rfl (fun ls hl => ?_)
  refine lv_aload_n C.1 C.2.1 dX5_spreadFrom_4 rfl (lv_at hl 2 rfl) ?_
  refine x_get C hw iwX5 4 rfl 0 rfl 5 (by decide) kw162 rfl dX5_spreadFrom_5 ?_
  refine lv_if_le (tgt := 84) C.1 C.2.1 dX5_spreadFrom_8 (by decide) (fun _ => ?_) (fun h9 => absurd (by decide) h9)
  refine lv_iload_n C.1 C.2.1 dX5_spreadFrom_84 rfl (lv_at hl 1 rfl) ?_
  exact x_reti B hw ⟨rfl, rfl⟩ (Nat.le_of_ble_eq_true rfl) (Nat.le_of_ble_eq_true rfl) dX5_spreadFrom_85
theorem dX10_spreads_0 : decode cX10_spreads 0 = .ok (.iload_n 1, 1) := by decide +kernel
theorem dX10_spreads_1 : decode cX10_spreads 1 = .ok (.ifCond .lt 15, 3) := by decide +kernel
theorem dX10_spreads_4 : decode cX10_spreads 4 = .ok (.iload_n 1, 1) := by decide +kernel
theorem dX10_spreads_5 : decode cX10_spreads 5 = .ok (.aload_n 0, 1) := by decide +kernel
theorem dX10_spreads_6 : decode cX10_spreads 6 = .ok (.getfield 19, 3) := by decide +kernel
theorem dX10_spreads_9 : decode cX10_spreads 9 = .ok (.getfield 258, 3) := by decide +kernel
theorem dX10_spreads_12 : decode cX10_spreads 12 = .ok (.ishr, 1) := by decide +kernel
theorem dX10_spreads_13 : decode cX10_spreads 13 = .ok (.ifCond .eq 5, 3) := by decide +kernel
theorem dX10_spreads_18 : decode cX10_spreads 18 = .ok (.aload_n 0, 1) := by decide +kernel
theorem dX10_spreads_19 : decode cX10_spreads 19 = .ok (.getfield 19, 3) := by decide +kernel
theorem dX10_spreads_22 : decode cX10_spreads 22 = .ok (.iload_n 1, 1) := by decide +kernel
theorem dX10_spreads_23 : decode cX10_spreads 23 = .ok (.invokevirtual 261, 3) := by decide +kernel
theorem mwX5_spreadFrom : MwV yX5_spreadFrom cX5_spreadFrom 6 (some .int) 1 := ⟨⟨kw730, kw7, by decide +kernel⟩, kw728, kw729⟩
theorem dX10_spreads_26 : decode cX10_spreads 26 = .ok (.ireturn, 1) := by decide +kernel
set_option maxHeartbeats 4000000 in
set_option maxRecDepth 100000 in
theorem c_X10_spreads__0 {l : Launch} {G : Gc} (qx : Nat) (qt : Nat) (qs : Nat) (qd : Nat) (qa : Nat) (qb : Nat) (qh : Nat) (qr : Nat) (qe : Nat) (qp : Nat) (qf : Nat) (qn : Nat) (qi : Nat) (qo : Nat) (sslideNames : Nat) (spictures : Nat) (sheats : Nat) (safter : Nat) (shearerNames : Nat) (sneeds : Nat) (slikes : Nat) (shates : Nat) (snear : Nat)  : Ci l yX10_spreads cX10_spreads 2 (some .int) 1 0 0 G [.ref qx, .int 0] [(qx, .inr (9, [.ref qt, .ref qs, .ref qd, .ref qa, .ref qb, .ref qh, .ref qr, .ref qe, .ref qp, .ref qf, .ref qn, .ref qi, .ref qo, .int 0, .int 0, .int (-1), .int (-1)])), (qs, .inr (4, [.int 0, .int 0, .int 0, .int 0, .int 1, .int 0, .int 40, .int 0, .int 0, .ref sslideNames, .ref spictures, .ref sheats, .ref safter, .ref shearerNames, .ref sneeds, .ref slikes, .ref shates, .ref snear]))] (fun (r9 : Int32) (u9 : va_W) => r9 = 0 ∧ u9 = [(qx, .inr (9, [.ref qt, .ref qs, .ref qd, .ref qa, .ref qb, .ref qh, .ref qr, .ref qe, .ref qp, .ref qf, .ref qn, .ref qi, .ref qo, .int 0, .int 0, .int (-1), .int (-1)])), (qs, .inr (4, [.int 0, .int 0, .int 0, .int 0, .int 1, .int 0, .int 40, .int 0, .int 0, .ref sslideNames, .ref spictures, .ref sheats, .ref safter, .ref shearerNames, .ref sneeds, .ref slikes, .ref shates, .ref snear]))]) := by
  refine Ci.of (by decide) (Nat.le_of_ble_eq_true rfl) ?_
  intro p e s m below meth c ls A B hw hl
  have C : CallFix p m c cX10_spreads 2 s _ gw "LanternState" := B.1
  have hl : lv_has ls 2 [(0, .ref qx), (1, .int 0)] := hl
  refine lv_iload_n C.1 C.2.1 dX10_spreads_0 rfl (lv_at hl 1 rfl) ?_
  refine lv_if_lt (tgt := 16) C.1 C.2.1 dX10_spreads_1 (by decide) (fun h9 => absurd h9 (by decide)) (fun _ => ?_)
  refine lv_iload_n C.1 C.2.1 dX10_spreads_4 rfl (lv_at hl 1 rfl) ?_
  refine lv_aload_n C.1 C.2.1 dX10_spreads_5 rfl (lv_at hl 0 rfl) ?_
  refine x_get C hw iwX10 9 rfl 0 rfl 1 (by decide) kw447 rfl dX10_spreads_6 ?_
  refine x_get C hw iwX5 4 rfl 1 rfl 1 (by decide) kw155 rfl dX10_spreads_9 ?_
  refine lv_ishr C.1 C.2.1 dX10_spreads_12 ?_
  refine x_topi (z := 0) (by decide) ?_
  refine lv_if_eq (tgt := 18) C.1 C.2.1 dX10_spreads_13 (by decide) (fun _ => ?_) (fun h9 => absurd (by decide) h9)
  refine lv_aload_n C.1 C.2.1 dX10_spreads_18 rfl (lv_at hl 0 rfl) ?_
  refine x_get C hw iwX10 9 rfl 0 rfl 1 (by decide) kw447 rfl dX10_spreads_19 ?_
  refine lv_iload_n C.1 C.2.1 dX10_spreads_22 rfl (lv_at hl 1 rfl) ?_
  refine x_calliV (As := [.int 0]) (rest := []) (wr := [(qx, .inr (9, [.ref qt, .ref qs, .ref qd, .ref qa, .ref qb, .ref qh, .ref qr, .ref qe, .ref qp, .ref qf, .ref qn, .ref qi, .ref qo, .int 0, .int 0, .int (-1), .int (-1)]))]) C hw (c_X5_spreadFrom qs 0 sslideNames spictures sheats safter shearerNames sneeds slikes shates snear) mwX5_spreadFrom kw813 [1] [0] rfl rfl rfl rfl (by decide) 0 rfl rfl rfl rfl hl.1 rfl (Nat.le_of_ble_eq_true rfl) ⟨(Nat.le_of_ble_eq_true rfl), (Nat.le_of_ble_eq_true rfl)⟩ ⟨(Nat.le_of_ble_eq_true rfl), (Nat.le_of_ble_eq_true rfl)⟩ dX10_spreads_23 (fun r1 u9 H locs hp9 hw => ?_)
  obtain ⟨rfl, rfl⟩ := hp9
  have hw : Wd G s A [(qx, .inr (9, [.ref qt, .ref qs, .ref qd, .ref qa, .ref qb, .ref qh, .ref qr, .ref qe, .ref qp, .ref qf, .ref qn, .ref qi, .ref qo, .int 0, .int 0, .int (-1), .int (-1)])), (qs, .inr (4, [.int 0, .int 0, .int 0, .int 0, .int 1, .int 0, .int 40, .int 0, .int 0, .ref sslideNames, .ref spictures, .ref sheats, .ref safter, .ref shearerNames, .ref sneeds, .ref slikes, .ref shates, .ref snear]))] H _ := hw
  exact x_reti B hw ⟨rfl, rfl⟩ (Nat.le_of_ble_eq_true rfl) (Nat.le_of_ble_eq_true rfl) dX10_spreads_26
theorem dX10_spreads_16 : decode cX10_spreads 16 = .ok (.iconst (-1), 1) := by decide +kernel
theorem dX10_spreads_17 : decode cX10_spreads 17 = .ok (.ireturn, 1) := by decide +kernel
set_option maxHeartbeats 4000000 in
set_option maxRecDepth 100000 in
theorem c_X10_spreads__N {l : Launch} {G : Gc} (qx : Nat) (a1 : Int32) (qt : Nat) (qs : Nat) (qd : Nat) (qa : Nat) (qb : Nat) (qh : Nat) (qr : Nat) (qe : Nat) (qp : Nat) (qf : Nat) (qn : Nat) (qi : Nat) (qo : Nat) (sslideNames : Nat) (spictures : Nat) (sheats : Nat) (safter : Nat) (shearerNames : Nat) (sneeds : Nat) (slikes : Nat) (shates : Nat) (snear : Nat) (hn : ¬ a1 = 0) : Ci l yX10_spreads cX10_spreads 2 (some .int) 1 0 0 G [.ref qx, .int a1] [(qx, .inr (9, [.ref qt, .ref qs, .ref qd, .ref qa, .ref qb, .ref qh, .ref qr, .ref qe, .ref qp, .ref qf, .ref qn, .ref qi, .ref qo, .int 0, .int 0, .int (-1), .int (-1)])), (qs, .inr (4, [.int 0, .int 0, .int 0, .int 0, .int 1, .int 0, .int 40, .int 0, .int 0, .ref sslideNames, .ref spictures, .ref sheats, .ref safter, .ref shearerNames, .ref sneeds, .ref slikes, .ref shates, .ref snear]))] (fun (r9 : Int32) (u9 : va_W) => r9 = (-1) ∧ u9 = [(qx, .inr (9, [.ref qt, .ref qs, .ref qd, .ref qa, .ref qb, .ref qh, .ref qr, .ref qe, .ref qp, .ref qf, .ref qn, .ref qi, .ref qo, .int 0, .int 0, .int (-1), .int (-1)])), (qs, .inr (4, [.int 0, .int 0, .int 0, .int 0, .int 1, .int 0, .int 40, .int 0, .int 0, .ref sslideNames, .ref spictures, .ref sheats, .ref safter, .ref shearerNames, .ref sneeds, .ref slikes, .ref shates, .ref snear]))]) := by
  refine Ci.of (by decide) (Nat.le_of_ble_eq_true rfl) ?_
  intro p e s m below meth c ls A B hw hl
  have C : CallFix p m c cX10_spreads 2 s _ gw "LanternState" := B.1
  have hl : lv_has ls 2 [(0, .ref qx), (1, .int a1)] := hl
  refine lv_iload_n C.1 C.2.1 dX10_spreads_0 rfl (lv_at hl 1 rfl) ?_
  refine lv_if_lt (tgt := 16) C.1 C.2.1 dX10_spreads_1 (by decide) (fun c_1 => ?_) (fun c_1 => ?_)
  · skip
    refine lv_iconst (v := (-1)) C.1 C.2.1 dX10_spreads_16 (by decide) ?_
    exact x_reti B hw ⟨rfl, rfl⟩ (Nat.le_of_ble_eq_true rfl) (Nat.le_of_ble_eq_true rfl) dX10_spreads_17
  · skip
    refine lv_iload_n C.1 C.2.1 dX10_spreads_4 rfl (lv_at hl 1 rfl) ?_
    refine lv_aload_n C.1 C.2.1 dX10_spreads_5 rfl (lv_at hl 0 rfl) ?_
    refine x_get C hw iwX10 9 rfl 0 rfl 1 (by decide) kw447 rfl dX10_spreads_6 ?_
    refine x_get C hw iwX5 4 rfl 1 rfl 1 (by decide) kw155 rfl dX10_spreads_9 ?_
    refine lv_ishr C.1 C.2.1 dX10_spreads_12 ?_
    refine lv_if_eq (tgt := 18) C.1 C.2.1 dX10_spreads_13 (by decide) (fun h9 => absurd h9 (x_shr0n hn)) (fun _ => ?_)
    refine lv_iconst (v := (-1)) C.1 C.2.1 dX10_spreads_16 (by decide) ?_
    exact x_reti B hw ⟨rfl, rfl⟩ (Nat.le_of_ble_eq_true rfl) (Nat.le_of_ble_eq_true rfl) dX10_spreads_17
theorem dX6_keepIfBetter_0 : decode cX6_keepIfBetter 0 = .ok (.iload_n 2, 1) := by decide +kernel
theorem dX6_keepIfBetter_1 : decode cX6_keepIfBetter 1 = .ok (.aload_n 0, 1) := by decide +kernel
theorem dX6_keepIfBetter_2 : decode cX6_keepIfBetter 2 = .ok (.getfield 49, 3) := by decide +kernel
theorem dX6_keepIfBetter_5 : decode cX6_keepIfBetter 5 = .ok (.if_icmp .le 28, 3) := by decide +kernel
theorem dX6_keepIfBetter_8 : decode cX6_keepIfBetter 8 = .ok (.aload_n 0, 1) := by decide +kernel
theorem dX6_keepIfBetter_9 : decode cX6_keepIfBetter 9 = .ok (.iload_n 2, 1) := by decide +kernel
theorem dX6_keepIfBetter_10 : decode cX6_keepIfBetter 10 = .ok (.putfield 49, 3) := by decide +kernel
theorem dX6_keepIfBetter_13 : decode cX6_keepIfBetter 13 = .ok (.aload_n 0, 1) := by decide +kernel
theorem dX6_keepIfBetter_14 : decode cX6_keepIfBetter 14 = .ok (.iload_n 1, 1) := by decide +kernel
theorem dX6_keepIfBetter_15 : decode cX6_keepIfBetter 15 = .ok (.putfield 76, 3) := by decide +kernel
theorem dX6_keepIfBetter_18 : decode cX6_keepIfBetter 18 = .ok (.aload_n 0, 1) := by decide +kernel
theorem dX6_keepIfBetter_19 : decode cX6_keepIfBetter 19 = .ok (.getfield 15, 3) := by decide +kernel
theorem dX6_keepIfBetter_22 : decode cX6_keepIfBetter 22 = .ok (.iconst 0, 1) := by decide +kernel
theorem dX6_keepIfBetter_23 : decode cX6_keepIfBetter 23 = .ok (.aload_n 0, 1) := by decide +kernel
theorem dX6_keepIfBetter_24 : decode cX6_keepIfBetter 24 = .ok (.getfield 9, 3) := by decide +kernel
theorem dX6_keepIfBetter_27 : decode cX6_keepIfBetter 27 = .ok (.iconst 0, 1) := by decide +kernel
theorem dX6_keepIfBetter_28 : decode cX6_keepIfBetter 28 = .ok (.bipush 6, 2) := by decide +kernel
theorem dX6_keepIfBetter_30 : decode cX6_keepIfBetter 30 = .ok (.invokestatic 79, 3) := by decide +kernel
theorem dX6_keepIfBetter_33 : decode cX6_keepIfBetter 33 = .ok (.return_, 1) := by decide +kernel
set_option maxHeartbeats 4000000 in
set_option maxRecDepth 100000 in
theorem c_X6_keepIfBetter {l : Launch} {G : Gc} (qf : Nat) (fbestPath : Nat) (fpath : Nat)  : Cv l yX6_keepIfBetter cX6_keepIfBetter 3 1 0 0 G [.ref qf, .int 0, .int 0] [(qf, .inr (5, [.ref fbestPath, .int 0, .int (-1), .ref fpath, .int 0, .int 0, .int 0])), (fbestPath, eI G 6 (fun _ => 0)), (fpath, eI G 6 (fun _ => 0))] (fun (u9 : va_W) => u9 = [(qf, .inr (5, [.ref fbestPath, .int 0, .int 0, .ref fpath, .int 0, .int 0, .int 0])), (fbestPath, eI G 6 (fun _ => 0)), (fpath, eI G 6 (fun _ => 0))]) := by
  refine Cv.of (by decide) (Nat.le_of_ble_eq_true rfl) ?_
  intro p e s m below meth c ls A B hw hl
  have C : CallFix p m c cX6_keepIfBetter 3 s _ gw "LanternState$Search" := B.1
  have hl : lv_has ls 3 [(0, .ref qf), (1, .int 0), (2, .int 0)] := hl
  refine lv_iload_n C.1 C.2.1 dX6_keepIfBetter_0 rfl (lv_at hl 2 rfl) ?_
  refine lv_aload_n C.1 C.2.1 dX6_keepIfBetter_1 rfl (lv_at hl 0 rfl) ?_
  refine x_get C hw iwX6 5 rfl 0 rfl 2 (by decide) kw381 rfl dX6_keepIfBetter_2 ?_
  refine lv_icmp_le (tgt := 33) C.1 C.2.1 dX6_keepIfBetter_5 (by decide) (fun h9 => absurd h9 (by decide)) (fun _ => ?_)
  refine lv_aload_n C.1 C.2.1 dX6_keepIfBetter_8 rfl (lv_at hl 0 rfl) ?_
  refine lv_iload_n C.1 C.2.1 dX6_keepIfBetter_9 rfl (lv_at hl 2 rfl) ?_
  refine x_put (w' := [(qf, .inr (5, [.ref fbestPath, .int 0, .int 0, .ref fpath, .int 0, .int 0, .int 0])), (fbestPath, eI G 6 (fun _ => 0)), (fpath, eI G 6 (fun _ => 0))]) C hw iwX6 tyX6_ok nmX6 5 rfl 0 rfl 2 (by decide) kw381 rfl rfl rfl (Nat.le_of_ble_eq_true rfl) rfl dX6_keepIfBetter_10 (fun H locs hw => ?_)
  refine lv_aload_n C.1 C.2.1 dX6_keepIfBetter_13 rfl (lv_at hl 0 rfl) ?_
  refine lv_iload_n C.1 C.2.1 dX6_keepIfBetter_14 rfl (lv_at hl 1 rfl) ?_
  refine x_put (w' := [(qf, .inr (5, [.ref fbestPath, .int 0, .int 0, .ref fpath, .int 0, .int 0, .int 0])), (fbestPath, eI G 6 (fun _ => 0)), (fpath, eI G 6 (fun _ => 0))]) C hw iwX6 tyX6_ok nmX6 5 rfl 0 rfl 1 (by decide) kw379 rfl rfl rfl (Nat.le_of_ble_eq_true rfl) rfl dX6_keepIfBetter_15 (fun H locs hw => ?_)
  refine lv_aload_n C.1 C.2.1 dX6_keepIfBetter_18 rfl (lv_at hl 0 rfl) ?_
  refine x_get C hw iwX6 5 rfl 0 rfl 3 (by decide) kw382 rfl dX6_keepIfBetter_19 ?_
  refine lv_iconst (v := 0) C.1 C.2.1 dX6_keepIfBetter_22 (by decide) ?_
  refine lv_aload_n C.1 C.2.1 dX6_keepIfBetter_23 rfl (lv_at hl 0 rfl) ?_
  refine x_get C hw iwX6 5 rfl 0 rfl 0 (by decide) kw377 rfl dX6_keepIfBetter_24 ?_
  refine lv_iconst (v := 0) C.1 C.2.1 dX6_keepIfBetter_27 (by decide) ?_
  refine lv_bipush (v := 6) C.1 C.2.1 dX6_keepIfBetter_28 (by decide) ?_
  refine x_copyi (g' := (fun _ => 0)) (w' := [(qf, .inr (5, [.ref fbestPath, .int 0, .int 0, .ref fpath, .int 0, .int 0, .int 0])), (fbestPath, eI G 6 (fun _ => 0)), (fpath, eI G 6 (fun _ => 0))]) C hw kw828 hl.1 2 1 rfl rfl (by decide) (by decide) (by decide) (Nat.le_of_ble_eq_true rfl) (Nat.le_of_ble_eq_true rfl) x_cpy0 rfl (Nat.le_of_ble_eq_true rfl) (Nat.le_of_ble_eq_true rfl) dX6_keepIfBetter_30 (fun H locs hw => ?_)
  exact x_retv B hw rfl (Nat.le_of_ble_eq_true rfl) (Nat.le_of_ble_eq_true rfl) dX6_keepIfBetter_33
theorem dX6_goOn_0 : decode cX6_goOn 0 = .ok (.iconst 1, 1) := by decide +kernel
theorem dX6_goOn_1 : decode cX6_goOn 1 = .ok (.istore 7, 2) := by decide +kernel
theorem dX6_goOn_3 : decode cX6_goOn 3 = .ok (.iconst 0, 1) := by decide +kernel
theorem dX6_goOn_4 : decode cX6_goOn 4 = .ok (.istore 8, 2) := by decide +kernel
theorem dX6_goOn_6 : decode cX6_goOn 6 = .ok (.iload_n 2, 1) := by decide +kernel
theorem dX6_goOn_7 : decode cX6_goOn 7 = .ok (.bipush 6, 2) := by decide +kernel
theorem dX6_goOn_9 : decode cX6_goOn 9 = .ok (.if_icmp .ge 153, 3) := by decide +kernel
theorem dX6_goOn_12 : decode cX6_goOn 12 = .ok (.iload 8, 2) := by decide +kernel
theorem dX6_goOn_14 : decode cX6_goOn 14 = .ok (.aload_n 1, 1) := by decide +kernel
theorem dX6_goOn_15 : decode cX6_goOn 15 = .ok (.getfield 22, 3) := by decide +kernel
theorem dX6_goOn_18 : decode cX6_goOn 18 = .ok (.if_icmp .ge 144, 3) := by decide +kernel
theorem dX6_goOn_162 : decode cX6_goOn 162 = .ok (.iload 7, 2) := by decide +kernel
theorem dX6_goOn_164 : decode cX6_goOn 164 = .ok (.ifCond .eq 10, 3) := by decide +kernel
theorem dX6_goOn_167 : decode cX6_goOn 167 = .ok (.aload_n 0, 1) := by decide +kernel
theorem dX6_goOn_168 : decode cX6_goOn 168 = .ok (.iload_n 2, 1) := by decide +kernel
theorem dX6_goOn_169 : decode cX6_goOn 169 = .ok (.iload 6, 2) := by decide +kernel
theorem dX6_goOn_171 : decode cX6_goOn 171 = .ok (.invokevirtual 56, 3) := by decide +kernel
theorem mwX6_keepIfBetter : MwV yX6_keepIfBetter cX6_keepIfBetter 3 none 2 := ⟨⟨kw827, kw12, by decide +kernel⟩, kw826, kS20⟩
theorem dX6_goOn_174 : decode cX6_goOn 174 = .ok (.return_, 1) := by decide +kernel
set_option maxHeartbeats 4000000 in
set_option maxRecDepth 100000 in
theorem c_X6_goOn {l : Launch} {G : Gc} (qf : Nat) (qs : Nat) (fbestPath : Nat) (fpath : Nat) (sslideNames : Nat) (spictures : Nat) (sheats : Nat) (safter : Nat) (shearerNames : Nat) (sneeds : Nat) (slikes : Nat) (shates : Nat) (snear : Nat)  : Cv l yX6_goOn cX6_goOn 13 2 0 0 G [.ref qf, .ref qs, .int 0, .int 0, .int 0, .int 0, .int 0] [(qf, .inr (5, [.ref fbestPath, .int 0, .int (-1), .ref fpath, .int 0, .int 0, .int 0])), (fbestPath, eI G 6 (fun _ => 0)), (fpath, eI G 6 (fun _ => 0)), (qs, .inr (4, [.int 0, .int 0, .int 0, .int 0, .int 1, .int 0, .int 40, .int 0, .int 0, .ref sslideNames, .ref spictures, .ref sheats, .ref safter, .ref shearerNames, .ref sneeds, .ref slikes, .ref shates, .ref snear]))] (fun (u9 : va_W) => u9 = [(qf, .inr (5, [.ref fbestPath, .int 0, .int 0, .ref fpath, .int 0, .int 0, .int 0])), (fbestPath, eI G 6 (fun _ => 0)), (fpath, eI G 6 (fun _ => 0)), (qs, .inr (4, [.int 0, .int 0, .int 0, .int 0, .int 1, .int 0, .int 40, .int 0, .int 0, .ref sslideNames, .ref spictures, .ref sheats, .ref safter, .ref shearerNames, .ref sneeds, .ref slikes, .ref shates, .ref snear]))]) := by
  refine Cv.of (by decide) (Nat.le_of_ble_eq_true rfl) ?_
  intro p e s m below meth c ls A B hw hl
  have C : CallFix p m c cX6_goOn 13 s _ gw "LanternState$Search" := B.1
  have hl : lv_has ls 13 [(0, .ref qf), (1, .ref qs), (2, .int 0), (3, .int 0), (4, .int 0), (5, .int 0), (6, .int 0)] := hl
  refine lv_iconst (v := 1) C.1 C.2.1 dX6_goOn_0 (by decide) ?_
  refine lv_istore (lv' := [(7, .int 1), (0, .ref qf), (1, .ref qs), (2, .int 0), (3, .int 0), (4, .int 0), (5, .int 0), (6, .int 0)]) C.1 C.2.1 dX6_goOn_1 hl (by decide) rfl (fun ls hl => ?_)
  refine lv_iconst (v := 0) C.1 C.2.1 dX6_goOn_3 (by decide) ?_
  refine lv_istore (lv' := [(8, .int 0), (7, .int 1), (0, .ref qf), (1, .ref qs), (2, .int 0), (3, .int 0), (4, .int 0), (5, .int 0), (6, .int 0)]) C.1 C.2.1 dX6_goOn_4 hl (by decide) rfl (fun ls hl => ?_)
  refine lv_iload_n C.1 C.2.1 dX6_goOn_6 rfl (lv_at hl 4 rfl) ?_
  refine lv_bipush (v := 6) C.1 C.2.1 dX6_goOn_7 (by decide) ?_
  refine lv_icmp_ge (tgt := 162) C.1 C.2.1 dX6_goOn_9 (by decide) (fun h9 => absurd h9 (by decide)) (fun _ => ?_)
  refine lv_iload C.1 C.2.1 dX6_goOn_12 (lv_at hl 0 rfl) ?_
  refine lv_aload_n C.1 C.2.1 dX6_goOn_14 rfl (lv_at hl 3 rfl) ?_
  refine x_get C hw iwX5 4 rfl 3 rfl 0 (by decide) kw148 rfl dX6_goOn_15 ?_
  refine lv_icmp_ge (tgt := 162) C.1 C.2.1 dX6_goOn_18 (by decide) (fun _ => ?_) (fun h9 => absurd (by decide) h9)
  refine lv_iload C.1 C.2.1 dX6_goOn_162 (lv_at hl 1 rfl) ?_
  refine lv_if_eq (tgt := 174) C.1 C.2.1 dX6_goOn_164 (by decide) (fun h9 => absurd h9 (by decide)) (fun _ => ?_)
  refine lv_aload_n C.1 C.2.1 dX6_goOn_167 rfl (lv_at hl 2 rfl) ?_
  refine lv_iload_n C.1 C.2.1 dX6_goOn_168 rfl (lv_at hl 4 rfl) ?_
  refine lv_iload C.1 C.2.1 dX6_goOn_169 (lv_at hl 8 rfl) ?_
  refine x_callvV (As := [.int 0, .int 0]) (rest := []) (wr := [(qs, .inr (4, [.int 0, .int 0, .int 0, .int 0, .int 1, .int 0, .int 40, .int 0, .int 0, .ref sslideNames, .ref spictures, .ref sheats, .ref safter, .ref shearerNames, .ref sneeds, .ref slikes, .ref shates, .ref snear]))]) C hw (c_X6_keepIfBetter qf fbestPath fpath) mwX6_keepIfBetter kw824 [0, 1, 2] [3] rfl rfl rfl rfl (by decide) 0 rfl rfl rfl rfl hl.1 rfl (Nat.le_of_ble_eq_true rfl) ⟨(Nat.le_of_ble_eq_true rfl), (Nat.le_of_ble_eq_true rfl)⟩ ⟨(Nat.le_of_ble_eq_true rfl), (Nat.le_of_ble_eq_true rfl)⟩ dX6_goOn_171 (fun  u9 H locs hp9 hw => ?_)
  obtain rfl := hp9
  have hw : Wd G s A [(qs, .inr (4, [.int 0, .int 0, .int 0, .int 0, .int 1, .int 0, .int 40, .int 0, .int 0, .ref sslideNames, .ref spictures, .ref sheats, .ref safter, .ref shearerNames, .ref sneeds, .ref slikes, .ref shates, .ref snear])), (qf, .inr (5, [.ref fbestPath, .int 0, .int 0, .ref fpath, .int 0, .int 0, .int 0])), (fbestPath, eI G 6 (fun _ => 0)), (fpath, eI G 6 (fun _ => 0))] H _ := hw
  have hw := hw.sub (w' := [(qf, .inr (5, [.ref fbestPath, .int 0, .int 0, .ref fpath, .int 0, .int 0, .int 0])), (fbestPath, eI G 6 (fun _ => 0)), (fpath, eI G 6 (fun _ => 0)), (qs, .inr (4, [.int 0, .int 0, .int 0, .int 0, .int 1, .int 0, .int 40, .int 0, .int 0, .ref sslideNames, .ref spictures, .ref sheats, .ref safter, .ref shearerNames, .ref sneeds, .ref slikes, .ref shates, .ref snear]))]) [1, 2, 3, 0] rfl rfl
  exact x_retv B hw rfl (Nat.le_of_ble_eq_true rfl) (Nat.le_of_ble_eq_true rfl) dX6_goOn_174
theorem dX6_findOrder_0 : decode cX6_findOrder 0 = .ok (.aload_n 0, 1) := by decide +kernel
theorem dX6_findOrder_1 : decode cX6_findOrder 1 = .ok (.iconst 0, 1) := by decide +kernel
theorem dX6_findOrder_2 : decode cX6_findOrder 2 = .ok (.putfield 18, 3) := by decide +kernel
theorem dX6_findOrder_5 : decode cX6_findOrder 5 = .ok (.iconst 0, 1) := by decide +kernel
theorem dX6_findOrder_6 : decode cX6_findOrder 6 = .ok (.istore_n 3, 1) := by decide +kernel
theorem dX6_findOrder_7 : decode cX6_findOrder 7 = .ok (.iconst 0, 1) := by decide +kernel
theorem dX6_findOrder_8 : decode cX6_findOrder 8 = .ok (.istore 4, 2) := by decide +kernel
theorem dX6_findOrder_10 : decode cX6_findOrder 10 = .ok (.iload 4, 2) := by decide +kernel
theorem dX6_findOrder_12 : decode cX6_findOrder 12 = .ok (.aload_n 1, 1) := by decide +kernel
theorem dX6_findOrder_13 : decode cX6_findOrder 13 = .ok (.getfield 22, 3) := by decide +kernel
theorem dX6_findOrder_16 : decode cX6_findOrder 16 = .ok (.if_icmp .ge 68, 3) := by decide +kernel
theorem dX6_findOrder_84 : decode cX6_findOrder 84 = .ok (.aload_n 0, 1) := by decide +kernel
theorem dX6_findOrder_85 : decode cX6_findOrder 85 = .ok (.iconst (-1), 1) := by decide +kernel
theorem dX6_findOrder_86 : decode cX6_findOrder 86 = .ok (.putfield 49, 3) := by decide +kernel
theorem dX6_findOrder_89 : decode cX6_findOrder 89 = .ok (.aload_n 2, 1) := by decide +kernel
theorem dX6_findOrder_90 : decode cX6_findOrder 90 = .ok (.getfield 52, 3) := by decide +kernel
theorem dX6_findOrder_93 : decode cX6_findOrder 93 = .ok (.ifCond .eq 12, 3) := by decide +kernel
theorem dX6_findOrder_105 : decode cX6_findOrder 105 = .ok (.aload_n 0, 1) := by decide +kernel
theorem dX6_findOrder_106 : decode cX6_findOrder 106 = .ok (.aload_n 1, 1) := by decide +kernel
theorem dX6_findOrder_107 : decode cX6_findOrder 107 = .ok (.iconst 0, 1) := by decide +kernel
theorem dX6_findOrder_108 : decode cX6_findOrder 108 = .ok (.iload_n 3, 1) := by decide +kernel
theorem dX6_findOrder_109 : decode cX6_findOrder 109 = .ok (.aload_n 2, 1) := by decide +kernel
theorem dX6_findOrder_110 : decode cX6_findOrder 110 = .ok (.getfield 27, 3) := by decide +kernel
theorem dX6_findOrder_113 : decode cX6_findOrder 113 = .ok (.aload_n 2, 1) := by decide +kernel
theorem dX6_findOrder_114 : decode cX6_findOrder 114 = .ok (.getfield 60, 3) := by decide +kernel
theorem dX6_findOrder_117 : decode cX6_findOrder 117 = .ok (.iconst 0, 1) := by decide +kernel
theorem dX6_findOrder_118 : decode cX6_findOrder 118 = .ok (.invokevirtual 63, 3) := by decide +kernel
theorem mwX6_goOn : MwV yX6_goOn cX6_goOn 13 none 6 := ⟨⟨kw832, kw12, by decide +kernel⟩, kw831, kS21⟩
theorem dX6_findOrder_121 : decode cX6_findOrder 121 = .ok (.aload_n 0, 1) := by decide +kernel
theorem dX6_findOrder_122 : decode cX6_findOrder 122 = .ok (.getfield 49, 3) := by decide +kernel
theorem dX6_findOrder_125 : decode cX6_findOrder 125 = .ok (.ireturn, 1) := by decide +kernel
set_option maxHeartbeats 4000000 in
set_option maxRecDepth 100000 in
theorem c_X6_findOrder {l : Launch} {G : Gc} (qf : Nat) (qs : Nat) (qa : Nat) (fbestPath : Nat) (fpath : Nat) (sslideNames : Nat) (spictures : Nat) (sheats : Nat) (safter : Nat) (shearerNames : Nat) (sneeds : Nat) (slikes : Nat) (shates : Nat) (snear : Nat) (apictures : Nat) (ashown : Nat) (asighed : Nat)  : Ci l yX6_findOrder cX6_findOrder 5 (some .int) 3 0 0 G [.ref qf, .ref qs, .ref qa] [(qf, .inr (5, [.ref fbestPath, .int 0, .int 0, .ref fpath, .int 0, .int 0, .int 0])), (fbestPath, eI G 6 (fun _ => 0)), (fpath, eI G 6 (fun _ => 0)), (qs, .inr (4, [.int 0, .int 0, .int 0, .int 0, .int 1, .int 0, .int 40, .int 0, .int 0, .ref sslideNames, .ref spictures, .ref sheats, .ref safter, .ref shearerNames, .ref sneeds, .ref slikes, .ref shates, .ref snear])), (qa, .inr (7, [.int 0, .int 0, .int 0, .int 0, .int 0, .int 0, .int 0, .int 0, .ref apictures, .ref ashown, .ref asighed]))] (fun (r9 : Int32) (u9 : va_W) => r9 = 0 ∧ u9 = [(qf, .inr (5, [.ref fbestPath, .int 0, .int 0, .ref fpath, .int 0, .int 0, .int 0])), (fbestPath, eI G 6 (fun _ => 0)), (fpath, eI G 6 (fun _ => 0)), (qs, .inr (4, [.int 0, .int 0, .int 0, .int 0, .int 1, .int 0, .int 40, .int 0, .int 0, .ref sslideNames, .ref spictures, .ref sheats, .ref safter, .ref shearerNames, .ref sneeds, .ref slikes, .ref shates, .ref snear])), (qa, .inr (7, [.int 0, .int 0, .int 0, .int 0, .int 0, .int 0, .int 0, .int 0, .ref apictures, .ref ashown, .ref asighed]))]) := by
  refine Ci.of (by decide) (Nat.le_of_ble_eq_true rfl) ?_
  intro p e s m below meth c ls A B hw hl
  have C : CallFix p m c cX6_findOrder 5 s _ gw "LanternState$Search" := B.1
  have hl : lv_has ls 5 [(0, .ref qf), (1, .ref qs), (2, .ref qa)] := hl
  refine lv_aload_n C.1 C.2.1 dX6_findOrder_0 rfl (lv_at hl 0 rfl) ?_
  refine lv_iconst (v := 0) C.1 C.2.1 dX6_findOrder_1 (by decide) ?_
  refine x_put (w' := [(qf, .inr (5, [.ref fbestPath, .int 0, .int 0, .ref fpath, .int 0, .int 0, .int 0])), (fbestPath, eI G 6 (fun _ => 0)), (fpath, eI G 6 (fun _ => 0)), (qs, .inr (4, [.int 0, .int 0, .int 0, .int 0, .int 1, .int 0, .int 40, .int 0, .int 0, .ref sslideNames, .ref spictures, .ref sheats, .ref safter, .ref shearerNames, .ref sneeds, .ref slikes, .ref shates, .ref snear])), (qa, .inr (7, [.int 0, .int 0, .int 0, .int 0, .int 0, .int 0, .int 0, .int 0, .ref apictures, .ref ashown, .ref asighed]))]) C hw iwX6 tyX6_ok nmX6 5 rfl 0 rfl 4 (by decide) kw383 rfl rfl rfl (Nat.le_of_ble_eq_true rfl) rfl dX6_findOrder_2 (fun H locs hw => ?_)
  refine lv_iconst (v := 0) C.1 C.2.1 dX6_findOrder_5 (by decide) ?_
  refine lv_istore_n (lv' := [(3, .int 0), (0, .ref qf), (1, .ref qs), (2, .ref qa)]) C.1 C.2.1 dX6_findOrder_6 rfl hl (by decide) rfl (fun ls hl => ?_)
  refine lv_iconst (v := 0) C.1 C.2.1 dX6_findOrder_7 (by decide) ?_
  refine lv_istore (lv' := [(4, .int 0), (3, .int 0), (0, .ref qf), (1, .ref qs), (2, .ref qa)]) C.1 C.2.1 dX6_findOrder_8 hl (by decide) rfl (fun ls hl => ?_)
  refine lv_iload C.1 C.2.1 dX6_findOrder_10 (lv_at hl 0 rfl) ?_
  refine lv_aload_n C.1 C.2.1 dX6_findOrder_12 rfl (lv_at hl 3 rfl) ?_
  refine x_get C hw iwX5 4 rfl 3 rfl 0 (by decide) kw148 rfl dX6_findOrder_13 ?_
  refine lv_icmp_ge (tgt := 84) C.1 C.2.1 dX6_findOrder_16 (by decide) (fun _ => ?_) (fun h9 => absurd (by decide) h9)
  refine lv_aload_n C.1 C.2.1 dX6_findOrder_84 rfl (lv_at hl 2 rfl) ?_
  refine lv_iconst (v := (-1)) C.1 C.2.1 dX6_findOrder_85 (by decide) ?_
  refine x_put (w' := [(qf, .inr (5, [.ref fbestPath, .int 0, .int (-1), .ref fpath, .int 0, .int 0, .int 0])), (fbestPath, eI G 6 (fun _ => 0)), (fpath, eI G 6 (fun _ => 0)), (qs, .inr (4, [.int 0, .int 0, .int 0, .int 0, .int 1, .int 0, .int 40, .int 0, .int 0, .ref sslideNames, .ref spictures, .ref sheats, .ref safter, .ref shearerNames, .ref sneeds, .ref slikes, .ref shates, .ref snear])), (qa, .inr (7, [.int 0, .int 0, .int 0, .int 0, .int 0, .int 0, .int 0, .int 0, .ref apictures, .ref ashown, .ref asighed]))]) C hw iwX6 tyX6_ok nmX6 5 rfl 0 rfl 2 (by decide) kw381 rfl rfl rfl (Nat.le_of_ble_eq_true rfl) rfl dX6_findOrder_86 (fun H locs hw => ?_)
  refine lv_aload_n C.1 C.2.1 dX6_findOrder_89 rfl (lv_at hl 4 rfl) ?_
  refine x_get C hw iwX8 7 rfl 4 rfl 2 (by decide) kw244 rfl dX6_findOrder_90 ?_
  refine lv_if_eq (tgt := 105) C.1 C.2.1 dX6_findOrder_93 (by decide) (fun _ => ?_) (fun h9 => absurd (by decide) h9)
  refine lv_aload_n C.1 C.2.1 dX6_findOrder_105 rfl (lv_at hl 2 rfl) ?_
  refine lv_aload_n C.1 C.2.1 dX6_findOrder_106 rfl (lv_at hl 3 rfl) ?_
  refine lv_iconst (v := 0) C.1 C.2.1 dX6_findOrder_107 (by decide) ?_
  refine lv_iload_n C.1 C.2.1 dX6_findOrder_108 rfl (lv_at hl 1 rfl) ?_
  refine lv_aload_n C.1 C.2.1 dX6_findOrder_109 rfl (lv_at hl 4 rfl) ?_
  refine x_get C hw iwX8 7 rfl 4 rfl 3 (by decide) kw248 rfl dX6_findOrder_110 ?_
  refine lv_aload_n C.1 C.2.1 dX6_findOrder_113 rfl (lv_at hl 4 rfl) ?_
  refine x_get C hw iwX8 7 rfl 4 rfl 1 (by decide) kw241 rfl dX6_findOrder_114 ?_
  refine lv_iconst (v := 0) C.1 C.2.1 dX6_findOrder_117 (by decide) ?_
  refine x_callvV (As := [.ref qs, .int 0, .int 0, .int 0, .int 0, .int 0]) (rest := []) (wr := [(qa, .inr (7, [.int 0, .int 0, .int 0, .int 0, .int 0, .int 0, .int 0, .int 0, .ref apictures, .ref ashown, .ref asighed]))]) C hw (c_X6_goOn qf qs fbestPath fpath sslideNames spictures sheats safter shearerNames sneeds slikes shates snear) mwX6_goOn kw829 [0, 1, 2, 3] [4] rfl rfl rfl rfl (by decide) 0 rfl rfl rfl rfl hl.1 rfl (Nat.le_of_ble_eq_true rfl) ⟨(Nat.le_of_ble_eq_true rfl), (Nat.le_of_ble_eq_true rfl)⟩ ⟨(Nat.le_of_ble_eq_true rfl), (Nat.le_of_ble_eq_true rfl)⟩ dX6_findOrder_118 (fun  u9 H locs hp9 hw => ?_)
  obtain rfl := hp9
  have hw : Wd G s A [(qa, .inr (7, [.int 0, .int 0, .int 0, .int 0, .int 0, .int 0, .int 0, .int 0, .ref apictures, .ref ashown, .ref asighed])), (qf, .inr (5, [.ref fbestPath, .int 0, .int 0, .ref fpath, .int 0, .int 0, .int 0])), (fbestPath, eI G 6 (fun _ => 0)), (fpath, eI G 6 (fun _ => 0)), (qs, .inr (4, [.int 0, .int 0, .int 0, .int 0, .int 1, .int 0, .int 40, .int 0, .int 0, .ref sslideNames, .ref spictures, .ref sheats, .ref safter, .ref shearerNames, .ref sneeds, .ref slikes, .ref shates, .ref snear]))] H _ := hw
  refine lv_aload_n C.1 C.2.1 dX6_findOrder_121 rfl (lv_at hl 2 rfl) ?_
  refine x_get C hw iwX6 5 rfl 1 rfl 2 (by decide) kw381 rfl dX6_findOrder_122 ?_
  have hw := hw.sub (w' := [(qf, .inr (5, [.ref fbestPath, .int 0, .int 0, .ref fpath, .int 0, .int 0, .int 0])), (fbestPath, eI G 6 (fun _ => 0)), (fpath, eI G 6 (fun _ => 0)), (qs, .inr (4, [.int 0, .int 0, .int 0, .int 0, .int 1, .int 0, .int 40, .int 0, .int 0, .ref sslideNames, .ref spictures, .ref sheats, .ref safter, .ref shearerNames, .ref sneeds, .ref slikes, .ref shates, .ref snear])), (qa, .inr (7, [.int 0, .int 0, .int 0, .int 0, .int 0, .int 0, .int 0, .int 0, .ref apictures, .ref ashown, .ref asighed]))]) [1, 2, 3, 4, 0] rfl rfl
  exact x_reti B hw ⟨rfl, rfl⟩ (Nat.le_of_ble_eq_true rfl) (Nat.le_of_ble_eq_true rfl) dX6_findOrder_125
theorem dX10_order_0 : decode cX10_order 0 = .ok (.aload_n 0, 1) := by decide +kernel
theorem dX10_order_1 : decode cX10_order 1 = .ok (.getfield 63, 3) := by decide +kernel
theorem dX10_order_4 : decode cX10_order 4 = .ok (.aload_n 0, 1) := by decide +kernel
theorem dX10_order_5 : decode cX10_order 5 = .ok (.getfield 19, 3) := by decide +kernel
theorem dX10_order_8 : decode cX10_order 8 = .ok (.aload_n 0, 1) := by decide +kernel
theorem dX10_order_9 : decode cX10_order 9 = .ok (.getfield 29, 3) := by decide +kernel
theorem dX10_order_12 : decode cX10_order 12 = .ok (.invokevirtual 264, 3) := by decide +kernel
theorem mwX6_findOrder : MwV yX6_findOrder cX6_findOrder 5 (some .int) 2 := ⟨⟨kw821, kw12, by decide +kernel⟩, kw819, kw820⟩
theorem dX10_order_15 : decode cX10_order 15 = .ok (.ireturn, 1) := by decide +kernel
set_option maxHeartbeats 4000000 in
set_option maxRecDepth 100000 in
theorem c_X10_order {l : Launch} {G : Gc} (qx : Nat) (qt : Nat) (qs : Nat) (qd : Nat) (qa : Nat) (qb : Nat) (qh : Nat) (qr : Nat) (qe : Nat) (qp : Nat) (qf : Nat) (qn : Nat) (qi : Nat) (qo : Nat) (fbestPath : Nat) (fpath : Nat) (sslideNames : Nat) (spictures : Nat) (sheats : Nat) (safter : Nat) (shearerNames : Nat) (sneeds : Nat) (slikes : Nat) (shates : Nat) (snear : Nat) (apictures : Nat) (ashown : Nat) (asighed : Nat)  : Ci l yX10_order cX10_order 1 (some .int) 4 0 0 G [.ref qx] [(qx, .inr (9, [.ref qt, .ref qs, .ref qd, .ref qa, .ref qb, .ref qh, .ref qr, .ref qe, .ref qp, .ref qf, .ref qn, .ref qi, .ref qo, .int 0, .int 0, .int (-1), .int (-1)])), (qf, .inr (5, [.ref fbestPath, .int 0, .int 0, .ref fpath, .int 0, .int 0, .int 0])), (fbestPath, eI G 6 (fun _ => 0)), (fpath, eI G 6 (fun _ => 0)), (qs, .inr (4, [.int 0, .int 0, .int 0, .int 0, .int 1, .int 0, .int 40, .int 0, .int 0, .ref sslideNames, .ref spictures, .ref sheats, .ref safter, .ref shearerNames, .ref sneeds, .ref slikes, .ref shates, .ref snear])), (qa, .inr (7, [.int 0, .int 0, .int 0, .int 0, .int 0, .int 0, .int 0, .int 0, .ref apictures, .ref ashown, .ref asighed]))] (fun (r9 : Int32) (u9 : va_W) => r9 = 0 ∧ u9 = [(qx, .inr (9, [.ref qt, .ref qs, .ref qd, .ref qa, .ref qb, .ref qh, .ref qr, .ref qe, .ref qp, .ref qf, .ref qn, .ref qi, .ref qo, .int 0, .int 0, .int (-1), .int (-1)])), (qf, .inr (5, [.ref fbestPath, .int 0, .int 0, .ref fpath, .int 0, .int 0, .int 0])), (fbestPath, eI G 6 (fun _ => 0)), (fpath, eI G 6 (fun _ => 0)), (qs, .inr (4, [.int 0, .int 0, .int 0, .int 0, .int 1, .int 0, .int 40, .int 0, .int 0, .ref sslideNames, .ref spictures, .ref sheats, .ref safter, .ref shearerNames, .ref sneeds, .ref slikes, .ref shates, .ref snear])), (qa, .inr (7, [.int 0, .int 0, .int 0, .int 0, .int 0, .int 0, .int 0, .int 0, .ref apictures, .ref ashown, .ref asighed]))]) := by
  refine Ci.of (by decide) (Nat.le_of_ble_eq_true rfl) ?_
  intro p e s m below meth c ls A B hw hl
  have C : CallFix p m c cX10_order 1 s _ gw "LanternState" := B.1
  have hl : lv_has ls 1 [(0, .ref qx)] := hl
  refine lv_aload_n C.1 C.2.1 dX10_order_0 rfl (lv_at hl 0 rfl) ?_
  refine x_get C hw iwX10 9 rfl 0 rfl 9 (by decide) kw455 rfl dX10_order_1 ?_
  refine lv_aload_n C.1 C.2.1 dX10_order_4 rfl (lv_at hl 0 rfl) ?_
  refine x_get C hw iwX10 9 rfl 0 rfl 1 (by decide) kw447 rfl dX10_order_5 ?_
  refine lv_aload_n C.1 C.2.1 dX10_order_8 rfl (lv_at hl 0 rfl) ?_
  refine x_get C hw iwX10 9 rfl 0 rfl 3 (by decide) kw449 rfl dX10_order_9 ?_
  refine x_calliV (As := [.ref qs, .ref qa]) (rest := []) (wr := [(qx, .inr (9, [.ref qt, .ref qs, .ref qd, .ref qa, .ref qb, .ref qh, .ref qr, .ref qe, .ref qp, .ref qf, .ref qn, .ref qi, .ref qo, .int 0, .int 0, .int (-1), .int (-1)]))]) C hw (c_X6_findOrder qf qs qa fbestPath fpath sslideNames spictures sheats safter shearerNames sneeds slikes shates snear apictures ashown asighed) mwX6_findOrder kw818 [1, 2, 3, 4, 5] [0] rfl rfl rfl rfl (by decide) 0 rfl rfl rfl rfl hl.1 rfl (Nat.le_of_ble_eq_true rfl) ⟨(Nat.le_of_ble_eq_true rfl), (Nat.le_of_ble_eq_true rfl)⟩ ⟨(Nat.le_of_ble_eq_true rfl), (Nat.le_of_ble_eq_true rfl)⟩ dX10_order_12 (fun r1 u9 H locs hp9 hw => ?_)
  obtain ⟨rfl, rfl⟩ := hp9
  have hw : Wd G s A [(qx, .inr (9, [.ref qt, .ref qs, .ref qd, .ref qa, .ref qb, .ref qh, .ref qr, .ref qe, .ref qp, .ref qf, .ref qn, .ref qi, .ref qo, .int 0, .int 0, .int (-1), .int (-1)])), (qf, .inr (5, [.ref fbestPath, .int 0, .int 0, .ref fpath, .int 0, .int 0, .int 0])), (fbestPath, eI G 6 (fun _ => 0)), (fpath, eI G 6 (fun _ => 0)), (qs, .inr (4, [.int 0, .int 0, .int 0, .int 0, .int 1, .int 0, .int 40, .int 0, .int 0, .ref sslideNames, .ref spictures, .ref sheats, .ref safter, .ref shearerNames, .ref sneeds, .ref slikes, .ref shates, .ref snear])), (qa, .inr (7, [.int 0, .int 0, .int 0, .int 0, .int 0, .int 0, .int 0, .int 0, .ref apictures, .ref ashown, .ref asighed]))] H _ := hw
  exact x_reti B hw ⟨rfl, rfl⟩ (Nat.le_of_ble_eq_true rfl) (Nat.le_of_ble_eq_true rfl) dX10_order_15
theorem dX10_orderAt_0 : decode cX10_orderAt 0 = .ok (.iload_n 1, 1) := by decide +kernel
theorem dX10_orderAt_1 : decode cX10_orderAt 1 = .ok (.ifCond .lt 14, 3) := by decide +kernel
theorem dX10_orderAt_15 : decode cX10_orderAt 15 = .ok (.iconst (-1), 1) := by decide +kernel
theorem dX10_orderAt_16 : decode cX10_orderAt 16 = .ok (.ireturn, 1) := by decide +kernel
theorem dX10_orderAt_4 : decode cX10_orderAt 4 = .ok (.iload_n 1, 1) := by decide +kernel
theorem dX10_orderAt_5 : decode cX10_orderAt 5 = .ok (.aload_n 0, 1) := by decide +kernel
theorem dX10_orderAt_6 : decode cX10_orderAt 6 = .ok (.getfield 63, 3) := by decide +kernel
theorem dX10_orderAt_9 : decode cX10_orderAt 9 = .ok (.getfield 268, 3) := by decide +kernel
theorem dX10_orderAt_12 : decode cX10_orderAt 12 = .ok (.if_icmp .lt 5, 3) := by decide +kernel
set_option maxHeartbeats 4000000 in
set_option maxRecDepth 100000 in
theorem c_X10_orderAt {l : Launch} {G : Gc} (qx : Nat) (a1 : Int32) (qt : Nat) (qs : Nat) (qd : Nat) (qa : Nat) (qb : Nat) (qh : Nat) (qr : Nat) (qe : Nat) (qp : Nat) (qf : Nat) (qn : Nat) (qi : Nat) (qo : Nat) (fbestPath : Nat) (fpath : Nat)  : Ci l yX10_orderAt cX10_orderAt 2 (some .int) 0 0 0 G [.ref qx, .int a1] [(qx, .inr (9, [.ref qt, .ref qs, .ref qd, .ref qa, .ref qb, .ref qh, .ref qr, .ref qe, .ref qp, .ref qf, .ref qn, .ref qi, .ref qo, .int 0, .int 0, .int (-1), .int (-1)])), (qf, .inr (5, [.ref fbestPath, .int 0, .int 0, .ref fpath, .int 0, .int 0, .int 0]))] (fun (r9 : Int32) (u9 : va_W) => r9 = (-1) ∧ u9 = [(qx, .inr (9, [.ref qt, .ref qs, .ref qd, .ref qa, .ref qb, .ref qh, .ref qr, .ref qe, .ref qp, .ref qf, .ref qn, .ref qi, .ref qo, .int 0, .int 0, .int (-1), .int (-1)])), (qf, .inr (5, [.ref fbestPath, .int 0, .int 0, .ref fpath, .int 0, .int 0, .int 0]))]) := by
  refine Ci.of (by decide) (Nat.le_of_ble_eq_true rfl) ?_
  intro p e s m below meth c ls A B hw hl
  have C : CallFix p m c cX10_orderAt 2 s _ gw "LanternState" := B.1
  have hl : lv_has ls 2 [(0, .ref qx), (1, .int a1)] := hl
  refine lv_iload_n C.1 C.2.1 dX10_orderAt_0 rfl (lv_at hl 1 rfl) ?_
  refine lv_if_lt (tgt := 15) C.1 C.2.1 dX10_orderAt_1 (by decide) (fun c_1 => ?_) (fun c_1 => ?_)
  · skip
    refine lv_iconst (v := (-1)) C.1 C.2.1 dX10_orderAt_15 (by decide) ?_
    exact x_reti B hw ⟨rfl, rfl⟩ (Nat.le_of_ble_eq_true rfl) (Nat.le_of_ble_eq_true rfl) dX10_orderAt_16
  · skip
    refine lv_iload_n C.1 C.2.1 dX10_orderAt_4 rfl (lv_at hl 1 rfl) ?_
    refine lv_aload_n C.1 C.2.1 dX10_orderAt_5 rfl (lv_at hl 0 rfl) ?_
    refine x_get C hw iwX10 9 rfl 0 rfl 9 (by decide) kw455 rfl dX10_orderAt_6 ?_
    refine x_get C hw iwX6 5 rfl 1 rfl 1 (by decide) kw380 rfl dX10_orderAt_9 ?_
    refine lv_icmp_lt (tgt := 17) C.1 C.2.1 dX10_orderAt_12 (by decide) (fun h9 => absurd h9 c_1) (fun _ => ?_)
    refine lv_iconst (v := (-1)) C.1 C.2.1 dX10_orderAt_15 (by decide) ?_
    exact x_reti B hw ⟨rfl, rfl⟩ (Nat.le_of_ble_eq_true rfl) (Nat.le_of_ble_eq_true rfl) dX10_orderAt_16
theorem dX10_movedWho_0 : decode cX10_movedWho 0 = .ok (.aload_n 0, 1) := by decide +kernel
theorem dX10_movedWho_1 : decode cX10_movedWho 1 = .ok (.getfield 84, 3) := by decide +kernel
theorem dX10_movedWho_4 : decode cX10_movedWho 4 = .ok (.ireturn, 1) := by decide +kernel
set_option maxHeartbeats 4000000 in
set_option maxRecDepth 100000 in
theorem c_X10_movedWho {l : Launch} {G : Gc} (qx : Nat) (qt : Nat) (qs : Nat) (qd : Nat) (qa : Nat) (qb : Nat) (qh : Nat) (qr : Nat) (qe : Nat) (qp : Nat) (qf : Nat) (qn : Nat) (qi : Nat) (qo : Nat)  : Ci l yX10_movedWho cX10_movedWho 1 (some .int) 0 0 0 G [.ref qx] [(qx, .inr (9, [.ref qt, .ref qs, .ref qd, .ref qa, .ref qb, .ref qh, .ref qr, .ref qe, .ref qp, .ref qf, .ref qn, .ref qi, .ref qo, .int 0, .int 0, .int (-1), .int (-1)]))] (fun (r9 : Int32) (u9 : va_W) => r9 = (-1) ∧ u9 = [(qx, .inr (9, [.ref qt, .ref qs, .ref qd, .ref qa, .ref qb, .ref qh, .ref qr, .ref qe, .ref qp, .ref qf, .ref qn, .ref qi, .ref qo, .int 0, .int 0, .int (-1), .int (-1)]))]) := by
  refine Ci.of (by decide) (Nat.le_of_ble_eq_true rfl) ?_
  intro p e s m below meth c ls A B hw hl
  have C : CallFix p m c cX10_movedWho 1 s _ gw "LanternState" := B.1
  have hl : lv_has ls 1 [(0, .ref qx)] := hl
  refine lv_aload_n C.1 C.2.1 dX10_movedWho_0 rfl (lv_at hl 0 rfl) ?_
  refine x_get C hw iwX10 9 rfl 0 rfl 15 (by decide) kw461 rfl dX10_movedWho_1 ?_
  exact x_reti B hw ⟨rfl, rfl⟩ (Nat.le_of_ble_eq_true rfl) (Nat.le_of_ble_eq_true rfl) dX10_movedWho_4
theorem dX10_scratched_0 : decode cX10_scratched 0 = .ok (.aload_n 0, 1) := by decide +kernel
theorem dX10_scratched_1 : decode cX10_scratched 1 = .ok (.getfield 88, 3) := by decide +kernel
theorem dX10_scratched_4 : decode cX10_scratched 4 = .ok (.ireturn, 1) := by decide +kernel
set_option maxHeartbeats 4000000 in
set_option maxRecDepth 100000 in
theorem c_X10_scratched {l : Launch} {G : Gc} (qx : Nat) (qt : Nat) (qs : Nat) (qd : Nat) (qa : Nat) (qb : Nat) (qh : Nat) (qr : Nat) (qe : Nat) (qp : Nat) (qf : Nat) (qn : Nat) (qi : Nat) (qo : Nat)  : Ci l yX10_scratched cX10_scratched 1 (some .int) 0 0 0 G [.ref qx] [(qx, .inr (9, [.ref qt, .ref qs, .ref qd, .ref qa, .ref qb, .ref qh, .ref qr, .ref qe, .ref qp, .ref qf, .ref qn, .ref qi, .ref qo, .int 0, .int 0, .int (-1), .int (-1)]))] (fun (r9 : Int32) (u9 : va_W) => r9 = (-1) ∧ u9 = [(qx, .inr (9, [.ref qt, .ref qs, .ref qd, .ref qa, .ref qb, .ref qh, .ref qr, .ref qe, .ref qp, .ref qf, .ref qn, .ref qi, .ref qo, .int 0, .int 0, .int (-1), .int (-1)]))]) := by
  refine Ci.of (by decide) (Nat.le_of_ble_eq_true rfl) ?_
  intro p e s m below meth c ls A B hw hl
  have C : CallFix p m c cX10_scratched 1 s _ gw "LanternState" := B.1
  have hl : lv_has ls 1 [(0, .ref qx)] := hl
  refine lv_aload_n C.1 C.2.1 dX10_scratched_0 rfl (lv_at hl 0 rfl) ?_
  refine x_get C hw iwX10 9 rfl 0 rfl 16 (by decide) kw462 rfl dX10_scratched_1 ?_
  exact x_reti B hw ⟨rfl, rfl⟩ (Nat.le_of_ble_eq_true rfl) (Nat.le_of_ble_eq_true rfl) dX10_scratched_4
theorem dX10_seen_0 : decode cX10_seen 0 = .ok (.aload_n 0, 1) := by decide +kernel
theorem dX10_seen_1 : decode cX10_seen 1 = .ok (.getfield 10, 3) := by decide +kernel
theorem dX10_seen_4 : decode cX10_seen 4 = .ok (.iconst 0, 1) := by decide +kernel
theorem dX10_seen_5 : decode cX10_seen 5 = .ok (.invokevirtual 281, 3) := by decide +kernel
theorem mwX9_pictureFrom : MwV yX9_pictureFrom cX9_pictureFrom 5 (some .int) 1 := ⟨⟨kw875, kw2, by decide +kernel⟩, kw873, kw874⟩
theorem dX10_seen_8 : decode cX10_seen 8 = .ok (.istore_n 1, 1) := by decide +kernel
theorem dX10_seen_9 : decode cX10_seen 9 = .ok (.aload_n 0, 1) := by decide +kernel
theorem dX10_seen_10 : decode cX10_seen 10 = .ok (.getfield 10, 3) := by decide +kernel
theorem dX10_seen_13 : decode cX10_seen 13 = .ok (.iconst 4, 1) := by decide +kernel
theorem dX10_seen_14 : decode cX10_seen 14 = .ok (.invokevirtual 281, 3) := by decide +kernel
theorem dX10_seen_17 : decode cX10_seen 17 = .ok (.istore_n 2, 1) := by decide +kernel
theorem dX10_seen_18 : decode cX10_seen 18 = .ok (.aload_n 0, 1) := by decide +kernel
theorem dX10_seen_19 : decode cX10_seen 19 = .ok (.getfield 10, 3) := by decide +kernel
theorem dX10_seen_22 : decode cX10_seen 22 = .ok (.iconst 0, 1) := by decide +kernel
theorem dX10_seen_23 : decode cX10_seen 23 = .ok (.putfield 92, 3) := by decide +kernel
theorem dX10_seen_26 : decode cX10_seen 26 = .ok (.iload_n 1, 1) := by decide +kernel
theorem dX10_seen_27 : decode cX10_seen 27 = .ok (.iconst (-1), 1) := by decide +kernel
theorem dX10_seen_28 : decode cX10_seen 28 = .ok (.if_icmp .eq 16, 3) := by decide +kernel
theorem dX10_seen_44 : decode cX10_seen 44 = .ok (.iconst (-1), 1) := by decide +kernel
theorem dX10_seen_45 : decode cX10_seen 45 = .ok (.ireturn, 1) := by decide +kernel
set_option maxHeartbeats 4000000 in
set_option maxRecDepth 100000 in
theorem c_X10_seen {l : Launch} {G : Gc} (qx : Nat) (qt : Nat) (qs : Nat) (qd : Nat) (qa : Nat) (qb : Nat) (qh : Nat) (qr : Nat) (qe : Nat) (qp : Nat) (qf : Nat) (qn : Nat) (qi : Nat) (qo : Nat) (kc : Nat) (bys : Nat)  : Ci l yX10_seen cX10_seen 5 (some .int) 1 0 0 G [.ref qx] [(qx, .inr (9, [.ref qt, .ref qs, .ref qd, .ref qa, .ref qb, .ref qh, .ref qr, .ref qe, .ref qp, .ref qf, .ref qn, .ref qi, .ref qo, .int 0, .int 0, .int (-1), .int (-1)])), (qt, .inr (8, [.ref kc, .ref bys, .int 0, .int 0, .int 0, .int 0, .int 0, .int 0, .long 0, .int 0, .int 0, .int 0]))] (fun (r9 : Int32) (u9 : va_W) => r9 = (-1) ∧ u9 = [(qx, .inr (9, [.ref qt, .ref qs, .ref qd, .ref qa, .ref qb, .ref qh, .ref qr, .ref qe, .ref qp, .ref qf, .ref qn, .ref qi, .ref qo, .int 0, .int 0, .int (-1), .int (-1)])), (qt, .inr (8, [.ref kc, .ref bys, .int 0, .int 0, .int 0, .int 0, .int 0, .int 0, .long 0, .int 0, .int 0, .int 0]))]) := by
  refine Ci.of (by decide) (Nat.le_of_ble_eq_true rfl) ?_
  intro p e s m below meth c ls A B hw hl
  have C : CallFix p m c cX10_seen 5 s _ gw "LanternState" := B.1
  have hl : lv_has ls 5 [(0, .ref qx)] := hl
  refine lv_aload_n C.1 C.2.1 dX10_seen_0 rfl (lv_at hl 0 rfl) ?_
  refine x_get C hw iwX10 9 rfl 0 rfl 0 (by decide) kw446 rfl dX10_seen_1 ?_
  refine lv_iconst (v := 0) C.1 C.2.1 dX10_seen_4 (by decide) ?_
  refine x_calliV (As := [.int 0]) (rest := []) (wr := [(qx, .inr (9, [.ref qt, .ref qs, .ref qd, .ref qa, .ref qb, .ref qh, .ref qr, .ref qe, .ref qp, .ref qf, .ref qn, .ref qi, .ref qo, .int 0, .int 0, .int (-1), .int (-1)]))]) C hw (c_X9_pic0 qt 0 kc bys 0 0 0 0 0 0 0 0 0) mwX9_pictureFrom kw872 [1] [0] rfl rfl rfl rfl (by decide) 0 rfl rfl rfl rfl hl.1 rfl (Nat.le_of_ble_eq_true rfl) ⟨(Nat.le_of_ble_eq_true rfl), (Nat.le_of_ble_eq_true rfl)⟩ ⟨(Nat.le_of_ble_eq_true rfl), (Nat.le_of_ble_eq_true rfl)⟩ dX10_seen_5 (fun r1 u9 H locs hp9 hw => ?_)
  obtain ⟨rfl, rfl⟩ := hp9
  have hw : Wd G s A [(qx, .inr (9, [.ref qt, .ref qs, .ref qd, .ref qa, .ref qb, .ref qh, .ref qr, .ref qe, .ref qp, .ref qf, .ref qn, .ref qi, .ref qo, .int 0, .int 0, .int (-1), .int (-1)])), (qt, .inr (8, [.ref kc, .ref bys, .int 0, .int 0, .int 0, .int 0, .int 0, .int 0, .long 0, .int 0, .int 0, .int 0]))] H _ := hw
  refine lv_istore_n (lv' := [(1, .int (-1)), (0, .ref qx)]) C.1 C.2.1 dX10_seen_8 rfl hl (by decide) rfl (fun ls hl => ?_)
  refine lv_aload_n C.1 C.2.1 dX10_seen_9 rfl (lv_at hl 1 rfl) ?_
  refine x_get C hw iwX10 9 rfl 0 rfl 0 (by decide) kw446 rfl dX10_seen_10 ?_
  refine lv_iconst (v := 4) C.1 C.2.1 dX10_seen_13 (by decide) ?_
  refine x_calliV (As := [.int 4]) (rest := []) (wr := [(qx, .inr (9, [.ref qt, .ref qs, .ref qd, .ref qa, .ref qb, .ref qh, .ref qr, .ref qe, .ref qp, .ref qf, .ref qn, .ref qi, .ref qo, .int 0, .int 0, .int (-1), .int (-1)]))]) C hw (c_X9_pic0 qt 4 kc bys 0 0 0 0 0 0 0 0 0) mwX9_pictureFrom kw872 [1] [0] rfl rfl rfl rfl (by decide) 0 rfl rfl rfl rfl hl.1 rfl (Nat.le_of_ble_eq_true rfl) ⟨(Nat.le_of_ble_eq_true rfl), (Nat.le_of_ble_eq_true rfl)⟩ ⟨(Nat.le_of_ble_eq_true rfl), (Nat.le_of_ble_eq_true rfl)⟩ dX10_seen_14 (fun r2 u9 H locs hp9 hw => ?_)
  obtain ⟨rfl, rfl⟩ := hp9
  have hw : Wd G s A [(qx, .inr (9, [.ref qt, .ref qs, .ref qd, .ref qa, .ref qb, .ref qh, .ref qr, .ref qe, .ref qp, .ref qf, .ref qn, .ref qi, .ref qo, .int 0, .int 0, .int (-1), .int (-1)])), (qt, .inr (8, [.ref kc, .ref bys, .int 0, .int 0, .int 0, .int 0, .int 0, .int 0, .long 0, .int 0, .int 0, .int 0]))] H _ := hw
  refine lv_istore_n (lv' := [(2, .int (-1)), (1, .int (-1)), (0, .ref qx)]) C.1 C.2.1 dX10_seen_17 rfl hl (by decide) rfl (fun ls hl => ?_)
  refine lv_aload_n C.1 C.2.1 dX10_seen_18 rfl (lv_at hl 2 rfl) ?_
  refine x_get C hw iwX10 9 rfl 0 rfl 0 (by decide) kw446 rfl dX10_seen_19 ?_
  refine lv_iconst (v := 0) C.1 C.2.1 dX10_seen_22 (by decide) ?_
  refine x_put (w' := [(qx, .inr (9, [.ref qt, .ref qs, .ref qd, .ref qa, .ref qb, .ref qh, .ref qr, .ref qe, .ref qp, .ref qf, .ref qn, .ref qi, .ref qo, .int 0, .int 0, .int (-1), .int (-1)])), (qt, .inr (8, [.ref kc, .ref bys, .int 0, .int 0, .int 0, .int 0, .int 0, .int 0, .long 0, .int 0, .int 0, .int 0]))]) C hw iwX9 tyX9_ok nmX9 8 rfl 1 rfl 2 (by decide) kw90 rfl rfl rfl (Nat.le_of_ble_eq_true rfl) rfl dX10_seen_23 (fun H locs hw => ?_)
  refine lv_iload_n C.1 C.2.1 dX10_seen_26 rfl (lv_at hl 1 rfl) ?_
  refine lv_iconst (v := (-1)) C.1 C.2.1 dX10_seen_27 (by decide) ?_
  refine lv_icmp_eq (tgt := 44) C.1 C.2.1 dX10_seen_28 (by decide) (fun _ => ?_) (fun h9 => absurd (by decide) h9)
  refine lv_iconst (v := (-1)) C.1 C.2.1 dX10_seen_44 (by decide) ?_
  exact x_reti B hw ⟨rfl, rfl⟩ (Nat.le_of_ble_eq_true rfl) (Nat.le_of_ble_eq_true rfl) dX10_seen_45
theorem dX10_parts_0 : decode cX10_parts 0 = .ok (.iconst (-1), 1) := by decide +kernel
theorem dX10_parts_1 : decode cX10_parts 1 = .ok (.istore_n 1, 1) := by decide +kernel
theorem dX10_parts_2 : decode cX10_parts 2 = .ok (.iconst 0, 1) := by decide +kernel
theorem dX10_parts_3 : decode cX10_parts 3 = .ok (.istore_n 2, 1) := by decide +kernel
theorem dX10_parts_4 : decode cX10_parts 4 = .ok (.iconst 0, 1) := by decide +kernel
theorem dX10_parts_5 : decode cX10_parts 5 = .ok (.istore_n 3, 1) := by decide +kernel
theorem dX10_parts_6 : decode cX10_parts 6 = .ok (.iload_n 3, 1) := by decide +kernel
theorem dX10_parts_7 : decode cX10_parts 7 = .ok (.aload_n 0, 1) := by decide +kernel
theorem dX10_parts_8 : decode cX10_parts 8 = .ok (.getfield 19, 3) := by decide +kernel
theorem dX10_parts_11 : decode cX10_parts 11 = .ok (.getfield 284, 3) := by decide +kernel
theorem dX10_parts_14 : decode cX10_parts 14 = .ok (.if_icmp .ge 75, 3) := by decide +kernel
theorem dX10_parts_89 : decode cX10_parts 89 = .ok (.iload_n 1, 1) := by decide +kernel
theorem dX10_parts_90 : decode cX10_parts 90 = .ok (.ireturn, 1) := by decide +kernel
set_option maxHeartbeats 4000000 in
set_option maxRecDepth 100000 in
theorem c_X10_parts {l : Launch} {G : Gc} (qx : Nat) (qt : Nat) (qs : Nat) (qd : Nat) (qa : Nat) (qb : Nat) (qh : Nat) (qr : Nat) (qe : Nat) (qp : Nat) (qf : Nat) (qn : Nat) (qi : Nat) (qo : Nat) (sslideNames : Nat) (spictures : Nat) (sheats : Nat) (safter : Nat) (shearerNames : Nat) (sneeds : Nat) (slikes : Nat) (shates : Nat) (snear : Nat)  : Ci l yX10_parts cX10_parts 6 (some .int) 1 0 0 G [.ref qx] [(qx, .inr (9, [.ref qt, .ref qs, .ref qd, .ref qa, .ref qb, .ref qh, .ref qr, .ref qe, .ref qp, .ref qf, .ref qn, .ref qi, .ref qo, .int 0, .int 0, .int (-1), .int (-1)])), (qs, .inr (4, [.int 0, .int 0, .int 0, .int 0, .int 1, .int 0, .int 40, .int 0, .int 0, .ref sslideNames, .ref spictures, .ref sheats, .ref safter, .ref shearerNames, .ref sneeds, .ref slikes, .ref shates, .ref snear]))] (fun (r9 : Int32) (u9 : va_W) => r9 = (-1) ∧ u9 = [(qx, .inr (9, [.ref qt, .ref qs, .ref qd, .ref qa, .ref qb, .ref qh, .ref qr, .ref qe, .ref qp, .ref qf, .ref qn, .ref qi, .ref qo, .int 0, .int 0, .int (-1), .int (-1)])), (qs, .inr (4, [.int 0, .int 0, .int 0, .int 0, .int 1, .int 0, .int 40, .int 0, .int 0, .ref sslideNames, .ref spictures, .ref sheats, .ref safter, .ref shearerNames, .ref sneeds, .ref slikes, .ref shates, .ref snear]))]) := by
  refine Ci.of (by decide) (Nat.le_of_ble_eq_true rfl) ?_
  intro p e s m below meth c ls A B hw hl
  have C : CallFix p m c cX10_parts 6 s _ gw "LanternState" := B.1
  have hl : lv_has ls 6 [(0, .ref qx)] := hl
  refine lv_iconst (v := (-1)) C.1 C.2.1 dX10_parts_0 (by decide) ?_
  refine lv_istore_n (lv' := [(1, .int (-1)), (0, .ref qx)]) C.1 C.2.1 dX10_parts_1 rfl hl (by decide) rfl (fun ls hl => ?_)
  refine lv_iconst (v := 0) C.1 C.2.1 dX10_parts_2 (by decide) ?_
  refine lv_istore_n (lv' := [(2, .int 0), (1, .int (-1)), (0, .ref qx)]) C.1 C.2.1 dX10_parts_3 rfl hl (by decide) rfl (fun ls hl => ?_)
  refine lv_iconst (v := 0) C.1 C.2.1 dX10_parts_4 (by decide) ?_
  refine lv_istore_n (lv' := [(3, .int 0), (2, .int 0), (1, .int (-1)), (0, .ref qx)]) C.1 C.2.1 dX10_parts_5 rfl hl (by decide) rfl (fun ls hl => ?_)
  refine lv_iload_n C.1 C.2.1 dX10_parts_6 rfl (lv_at hl 0 rfl) ?_
  refine lv_aload_n C.1 C.2.1 dX10_parts_7 rfl (lv_at hl 3 rfl) ?_
  refine x_get C hw iwX10 9 rfl 0 rfl 1 (by decide) kw447 rfl dX10_parts_8 ?_
  refine x_get C hw iwX5 4 rfl 1 rfl 0 (by decide) kw151 rfl dX10_parts_11 ?_
  refine lv_icmp_ge (tgt := 89) C.1 C.2.1 dX10_parts_14 (by decide) (fun _ => ?_) (fun h9 => absurd (by decide) h9)
  refine lv_iload_n C.1 C.2.1 dX10_parts_89 rfl (lv_at hl 2 rfl) ?_
  exact x_reti B hw ⟨rfl, rfl⟩ (Nat.le_of_ble_eq_true rfl) (Nat.le_of_ble_eq_true rfl) dX10_parts_90
theorem dX10_byteAt_0 : decode cX10_byteAt 0 = .ok (.iload_n 1, 1) := by decide +kernel
theorem dX10_byteAt_1 : decode cX10_byteAt 1 = .ok (.ifCond .lt 14, 3) := by decide +kernel
theorem dX10_byteAt_15 : decode cX10_byteAt 15 = .ok (.iconst (-1), 1) := by decide +kernel
theorem dX10_byteAt_16 : decode cX10_byteAt 16 = .ok (.ireturn, 1) := by decide +kernel
theorem dX10_byteAt_4 : decode cX10_byteAt 4 = .ok (.iload_n 1, 1) := by decide +kernel
theorem dX10_byteAt_5 : decode cX10_byteAt 5 = .ok (.aload_n 0, 1) := by decide +kernel
theorem dX10_byteAt_6 : decode cX10_byteAt 6 = .ok (.getfield 70, 3) := by decide +kernel
theorem dX10_byteAt_9 : decode cX10_byteAt 9 = .ok (.getfield 304, 3) := by decide +kernel
theorem dX10_byteAt_12 : decode cX10_byteAt 12 = .ok (.if_icmp .lt 5, 3) := by decide +kernel
set_option maxHeartbeats 4000000 in
set_option maxRecDepth 100000 in
theorem c_X10_byteAt {l : Launch} {G : Gc} (qx : Nat) (a1 : Int32) (qt : Nat) (qs : Nat) (qd : Nat) (qa : Nat) (qb : Nat) (qh : Nat) (qr : Nat) (qe : Nat) (qp : Nat) (qf : Nat) (qn : Nat) (qi : Nat) (qo : Nat) (nletters : Nat)  : Ci l yX10_byteAt cX10_byteAt 2 (some .int) 0 0 0 G [.ref qx, .int a1] [(qx, .inr (9, [.ref qt, .ref qs, .ref qd, .ref qa, .ref qb, .ref qh, .ref qr, .ref qe, .ref qp, .ref qf, .ref qn, .ref qi, .ref qo, .int 0, .int 0, .int (-1), .int (-1)])), (qn, .inr (0, [.ref nletters, .int 0]))] (fun (r9 : Int32) (u9 : va_W) => r9 = (-1) ∧ u9 = [(qx, .inr (9, [.ref qt, .ref qs, .ref qd, .ref qa, .ref qb, .ref qh, .ref qr, .ref qe, .ref qp, .ref qf, .ref qn, .ref qi, .ref qo, .int 0, .int 0, .int (-1), .int (-1)])), (qn, .inr (0, [.ref nletters, .int 0]))]) := by
  refine Ci.of (by decide) (Nat.le_of_ble_eq_true rfl) ?_
  intro p e s m below meth c ls A B hw hl
  have C : CallFix p m c cX10_byteAt 2 s _ gw "LanternState" := B.1
  have hl : lv_has ls 2 [(0, .ref qx), (1, .int a1)] := hl
  refine lv_iload_n C.1 C.2.1 dX10_byteAt_0 rfl (lv_at hl 1 rfl) ?_
  refine lv_if_lt (tgt := 15) C.1 C.2.1 dX10_byteAt_1 (by decide) (fun c_1 => ?_) (fun c_1 => ?_)
  · skip
    refine lv_iconst (v := (-1)) C.1 C.2.1 dX10_byteAt_15 (by decide) ?_
    exact x_reti B hw ⟨rfl, rfl⟩ (Nat.le_of_ble_eq_true rfl) (Nat.le_of_ble_eq_true rfl) dX10_byteAt_16
  · skip
    refine lv_iload_n C.1 C.2.1 dX10_byteAt_4 rfl (lv_at hl 1 rfl) ?_
    refine lv_aload_n C.1 C.2.1 dX10_byteAt_5 rfl (lv_at hl 0 rfl) ?_
    refine x_get C hw iwX10 9 rfl 0 rfl 10 (by decide) kw456 rfl dX10_byteAt_6 ?_
    refine x_get C hw iwX0 0 rfl 1 rfl 1 (by decide) kw410 rfl dX10_byteAt_9 ?_
    refine lv_icmp_lt (tgt := 17) C.1 C.2.1 dX10_byteAt_12 (by decide) (fun h9 => absurd h9 c_1) (fun _ => ?_)
    refine lv_iconst (v := (-1)) C.1 C.2.1 dX10_byteAt_15 (by decide) ?_
    exact x_reti B hw ⟨rfl, rfl⟩ (Nat.le_of_ble_eq_true rfl) (Nat.le_of_ble_eq_true rfl) dX10_byteAt_16
theorem dX10_drawn_0 : decode cX10_drawn 0 = .ok (.iload_n 1, 1) := by decide +kernel
theorem dX10_drawn_1 : decode cX10_drawn 1 = .ok (.iconst 1, 1) := by decide +kernel
theorem dX10_drawn_2 : decode cX10_drawn 2 = .ok (.if_icmp .lt 19, 3) := by decide +kernel
theorem dX10_drawn_21 : decode cX10_drawn 21 = .ok (.iconst (-1), 1) := by decide +kernel
theorem dX10_drawn_22 : decode cX10_drawn 22 = .ok (.ireturn, 1) := by decide +kernel
theorem dX10_drawn_5 : decode cX10_drawn 5 = .ok (.iload_n 1, 1) := by decide +kernel
theorem dX10_drawn_6 : decode cX10_drawn 6 = .ok (.bipush 24, 2) := by decide +kernel
theorem dX10_drawn_8 : decode cX10_drawn 8 = .ok (.if_icmp .gt 13, 3) := by decide +kernel
theorem dX10_drawn_11 : decode cX10_drawn 11 = .ok (.aload_n 0, 1) := by decide +kernel
theorem dX10_drawn_12 : decode cX10_drawn 12 = .ok (.getfield 19, 3) := by decide +kernel
theorem dX10_drawn_15 : decode cX10_drawn 15 = .ok (.getfield 284, 3) := by decide +kernel
theorem dX10_drawn_18 : decode cX10_drawn 18 = .ok (.ifCond .ne 5, 3) := by decide +kernel
set_option maxHeartbeats 4000000 in
set_option maxRecDepth 100000 in
theorem c_X10_drawn {l : Launch} {G : Gc} (qx : Nat) (a1 : Int32) (a2 : Int32) (qt : Nat) (qs : Nat) (qd : Nat) (qa : Nat) (qb : Nat) (qh : Nat) (qr : Nat) (qe : Nat) (qp : Nat) (qf : Nat) (qn : Nat) (qi : Nat) (qo : Nat) (sslideNames : Nat) (spictures : Nat) (sheats : Nat) (safter : Nat) (shearerNames : Nat) (sneeds : Nat) (slikes : Nat) (shates : Nat) (snear : Nat)  : Ci l yX10_drawn cX10_drawn 4 (some .int) 1 0 0 G [.ref qx, .int a1, .int a2] [(qx, .inr (9, [.ref qt, .ref qs, .ref qd, .ref qa, .ref qb, .ref qh, .ref qr, .ref qe, .ref qp, .ref qf, .ref qn, .ref qi, .ref qo, .int 0, .int 0, .int (-1), .int (-1)])), (qs, .inr (4, [.int 0, .int 0, .int 0, .int 0, .int 1, .int 0, .int 40, .int 0, .int 0, .ref sslideNames, .ref spictures, .ref sheats, .ref safter, .ref shearerNames, .ref sneeds, .ref slikes, .ref shates, .ref snear]))] (fun (r9 : Int32) (u9 : va_W) => r9 = (-1) ∧ u9 = [(qx, .inr (9, [.ref qt, .ref qs, .ref qd, .ref qa, .ref qb, .ref qh, .ref qr, .ref qe, .ref qp, .ref qf, .ref qn, .ref qi, .ref qo, .int 0, .int 0, .int (-1), .int (-1)])), (qs, .inr (4, [.int 0, .int 0, .int 0, .int 0, .int 1, .int 0, .int 40, .int 0, .int 0, .ref sslideNames, .ref spictures, .ref sheats, .ref safter, .ref shearerNames, .ref sneeds, .ref slikes, .ref shates, .ref snear]))]) := by
  refine Ci.of (by decide) (Nat.le_of_ble_eq_true rfl) ?_
  intro p e s m below meth c ls A B hw hl
  have C : CallFix p m c cX10_drawn 4 s _ gw "LanternState" := B.1
  have hl : lv_has ls 4 [(0, .ref qx), (1, .int a1), (2, .int a2)] := hl
  refine lv_iload_n C.1 C.2.1 dX10_drawn_0 rfl (lv_at hl 1 rfl) ?_
  refine lv_iconst (v := 1) C.1 C.2.1 dX10_drawn_1 (by decide) ?_
  refine lv_icmp_lt (tgt := 21) C.1 C.2.1 dX10_drawn_2 (by decide) (fun c_2 => ?_) (fun c_2 => ?_)
  · skip
    refine lv_iconst (v := (-1)) C.1 C.2.1 dX10_drawn_21 (by decide) ?_
    exact x_reti B hw ⟨rfl, rfl⟩ (Nat.le_of_ble_eq_true rfl) (Nat.le_of_ble_eq_true rfl) dX10_drawn_22
  · skip
    refine lv_iload_n C.1 C.2.1 dX10_drawn_5 rfl (lv_at hl 1 rfl) ?_
    refine lv_bipush (v := 24) C.1 C.2.1 dX10_drawn_6 (by decide) ?_
    refine lv_icmp_gt (tgt := 21) C.1 C.2.1 dX10_drawn_8 (by decide) (fun c_8 => ?_) (fun c_8 => ?_)
    · skip
      refine lv_iconst (v := (-1)) C.1 C.2.1 dX10_drawn_21 (by decide) ?_
      exact x_reti B hw ⟨rfl, rfl⟩ (Nat.le_of_ble_eq_true rfl) (Nat.le_of_ble_eq_true rfl) dX10_drawn_22
    · skip
      refine lv_aload_n C.1 C.2.1 dX10_drawn_11 rfl (lv_at hl 0 rfl) ?_
      refine x_get C hw iwX10 9 rfl 0 rfl 1 (by decide) kw447 rfl dX10_drawn_12 ?_
      refine x_get C hw iwX5 4 rfl 1 rfl 0 (by decide) kw151 rfl dX10_drawn_15 ?_
      refine lv_if_ne (tgt := 23) C.1 C.2.1 dX10_drawn_18 (by decide) (fun h9 => absurd (by decide) h9) (fun _ => ?_)
      refine lv_iconst (v := (-1)) C.1 C.2.1 dX10_drawn_21 (by decide) ?_
      exact x_reti B hw ⟨rfl, rfl⟩ (Nat.le_of_ble_eq_true rfl) (Nat.le_of_ble_eq_true rfl) dX10_drawn_22
theorem dX10_told_0 : decode cX10_told 0 = .ok (.aload_n 0, 1) := by decide +kernel
theorem dX10_told_1 : decode cX10_told 1 = .ok (.getfield 318, 3) := by decide +kernel
theorem dX10_told_4 : decode cX10_told 4 = .ok (.ifCond .eq 16, 3) := by decide +kernel
theorem dX10_told_20 : decode cX10_told 20 = .ok (.iconst (-1), 1) := by decide +kernel
theorem dX10_told_21 : decode cX10_told 21 = .ok (.ireturn, 1) := by decide +kernel
set_option maxHeartbeats 4000000 in
set_option maxRecDepth 100000 in
theorem c_X10_told {l : Launch} {G : Gc} (qx : Nat) (a1 : Int32) (qt : Nat) (qs : Nat) (qd : Nat) (qa : Nat) (qb : Nat) (qh : Nat) (qr : Nat) (qe : Nat) (qp : Nat) (qf : Nat) (qn : Nat) (qi : Nat) (qo : Nat)  : Ci l yX10_told cX10_told 2 (some .int) 0 0 0 G [.ref qx, .int a1] [(qx, .inr (9, [.ref qt, .ref qs, .ref qd, .ref qa, .ref qb, .ref qh, .ref qr, .ref qe, .ref qp, .ref qf, .ref qn, .ref qi, .ref qo, .int 0, .int 0, .int (-1), .int (-1)]))] (fun (r9 : Int32) (u9 : va_W) => r9 = (-1) ∧ u9 = [(qx, .inr (9, [.ref qt, .ref qs, .ref qd, .ref qa, .ref qb, .ref qh, .ref qr, .ref qe, .ref qp, .ref qf, .ref qn, .ref qi, .ref qo, .int 0, .int 0, .int (-1), .int (-1)]))]) := by
  refine Ci.of (by decide) (Nat.le_of_ble_eq_true rfl) ?_
  intro p e s m below meth c ls A B hw hl
  have C : CallFix p m c cX10_told 2 s _ gw "LanternState" := B.1
  have hl : lv_has ls 2 [(0, .ref qx), (1, .int a1)] := hl
  refine lv_aload_n C.1 C.2.1 dX10_told_0 rfl (lv_at hl 0 rfl) ?_
  refine x_get C hw iwX10 9 rfl 0 rfl 13 (by decide) kw459 rfl dX10_told_1 ?_
  refine lv_if_eq (tgt := 20) C.1 C.2.1 dX10_told_4 (by decide) (fun _ => ?_) (fun h9 => absurd (by decide) h9)
  refine lv_iconst (v := (-1)) C.1 C.2.1 dX10_told_20 (by decide) ?_
  exact x_reti B hw ⟨rfl, rfl⟩ (Nat.le_of_ble_eq_true rfl) (Nat.le_of_ble_eq_true rfl) dX10_told_21
theorem dX10_said_0 : decode cX10_said 0 = .ok (.aload_n 0, 1) := by decide +kernel
theorem dX10_said_1 : decode cX10_said 1 = .ok (.getfield 46, 3) := by decide +kernel
theorem dX10_said_4 : decode cX10_said 4 = .ok (.getfield 119, 3) := by decide +kernel
theorem dX10_said_7 : decode cX10_said 7 = .ok (.ifCond .ne 5, 3) := by decide +kernel
theorem dX10_said_10 : decode cX10_said 10 = .ok (.iconst (-1), 1) := by decide +kernel
theorem dX10_said_11 : decode cX10_said 11 = .ok (.ireturn, 1) := by decide +kernel
set_option maxHeartbeats 4000000 in
set_option maxRecDepth 100000 in
theorem c_X10_said {l : Launch} {G : Gc} (qx : Nat) (a1 : Int32) (qt : Nat) (qs : Nat) (qd : Nat) (qa : Nat) (qb : Nat) (qh : Nat) (qr : Nat) (qe : Nat) (qp : Nat) (qf : Nat) (qn : Nat) (qi : Nat) (qo : Nat) (rkeys : Nat) (rsigns : Nat) (rnumbers : Nat) (rstack : Nat)  : Ci l yX10_said cX10_said 5 (some .int) 1 0 0 G [.ref qx, .int a1] [(qx, .inr (9, [.ref qt, .ref qs, .ref qd, .ref qa, .ref qb, .ref qh, .ref qr, .ref qe, .ref qp, .ref qf, .ref qn, .ref qi, .ref qo, .int 0, .int 0, .int (-1), .int (-1)])), (qr, .inr (6, [.int 0, .int 0, .int 0, .ref rkeys, .ref rsigns, .ref rnumbers, .ref rstack]))] (fun (r9 : Int32) (u9 : va_W) => r9 = (-1) ∧ u9 = [(qx, .inr (9, [.ref qt, .ref qs, .ref qd, .ref qa, .ref qb, .ref qh, .ref qr, .ref qe, .ref qp, .ref qf, .ref qn, .ref qi, .ref qo, .int 0, .int 0, .int (-1), .int (-1)])), (qr, .inr (6, [.int 0, .int 0, .int 0, .ref rkeys, .ref rsigns, .ref rnumbers, .ref rstack]))]) := by
  refine Ci.of (by decide) (Nat.le_of_ble_eq_true rfl) ?_
  intro p e s m below meth c ls A B hw hl
  have C : CallFix p m c cX10_said 5 s _ gw "LanternState" := B.1
  have hl : lv_has ls 5 [(0, .ref qx), (1, .int a1)] := hl
  refine lv_aload_n C.1 C.2.1 dX10_said_0 rfl (lv_at hl 0 rfl) ?_
  refine x_get C hw iwX10 9 rfl 0 rfl 6 (by decide) kw452 rfl dX10_said_1 ?_
  refine x_get C hw iwX7 6 rfl 1 rfl 0 (by decide) kw321 rfl dX10_said_4 ?_
  refine lv_if_ne (tgt := 12) C.1 C.2.1 dX10_said_7 (by decide) (fun h9 => absurd (by decide) h9) (fun _ => ?_)
  refine lv_iconst (v := (-1)) C.1 C.2.1 dX10_said_10 (by decide) ?_
  exact x_reti B hw ⟨rfl, rfl⟩ (Nat.le_of_ble_eq_true rfl) (Nat.le_of_ble_eq_true rfl) dX10_said_11
