-- needs: 4 5 12 14 16
theorem dX10_isSlide_0 : decode cX10_isSlide 0 = .ok (.iload_n 1, 1) := by decide +kernel
theorem dX10_isSlide_1 : decode cX10_isSlide 1 = .ok (.ifCond .lt 18, 3) := by decide +kernel
theorem dX10_isSlide_19 : decode cX10_isSlide 19 = .ok (.iconst 0, 1) := by decide +kernel
theorem dX10_isSlide_20 : decode cX10_isSlide 20 = .ok (.ireturn, 1) := by decide +kernel
theorem dX10_isSlide_4 : decode cX10_isSlide 4 = .ok (.iload_n 1, 1) := by decide +kernel
theorem dX10_isSlide_5 : decode cX10_isSlide 5 = .ok (.aload_n 0, 1) := by decide +kernel
theorem dX10_isSlide_6 : decode cX10_isSlide 6 = .ok (.getfield 19, 3) := by decide +kernel
theorem dX10_isSlide_9 : decode cX10_isSlide 9 = .ok (.getfield 284, 3) := by decide +kernel
theorem dX10_isSlide_12 : decode cX10_isSlide 12 = .ok (.if_icmp .ge 7, 3) := by decide +kernel
theorem dX10_isSlide_15 : decode cX10_isSlide 15 = .ok (.iconst 1, 1) := by decide +kernel
theorem dX10_isSlide_16 : decode cX10_isSlide 16 = .ok (.goto 4, 3) := by decide +kernel
set_option maxHeartbeats 4000000 in
set_option maxRecDepth 100000 in
theorem s_X10_isSlide {l : Launch} {G : Gc} (qx : Nat) (a1 : Int32) (qt : Nat) (qs : Nat) (qd : Nat) (qa : Nat) (qb : Nat) (qh : Nat) (qr : Nat) (qe : Nat) (qp : Nat) (qf : Nat) (qn : Nat) (qi : Nat) (qw : Nat) (qx_toldAny : Int32) (qx_lastFault : Int32) (qx_lastMoved : Int32) (qx_lastScratched : Int32) (qs_slides : Int32) (qs_hearers : Int32) (qs_nears : Int32) (qs_lines : Int32) (qs_pass : Int32) (qs_spread : Int32) (qs_lamp : Int32) (qs_behind : Int32) (qs_settingsTold : Int32) (qs_slideNames : Nat) (qs_pictures : Nat) (qs_heats : Nat) (qs_after : Nat) (qs_hearerNames : Nat) (qs_needs : Nat) (qs_likes : Nat) (qs_hates : Nat) (qs_near : Nat) (hi_qs_slides : 0 ≤ qs_slides.toInt ∧ qs_slides.toInt ≤ 6) : Ci l yX10_isSlide cX10_isSlide 2 (some .boolean) 0 0 0 G [.ref qx, .int a1] [(qx, .inr (9, [.ref qt, .ref qs, .ref qd, .ref qa, .ref qb, .ref qh, .ref qr, .ref qe, .ref qp, .ref qf, .ref qn, .ref qi, .ref qw, .int qx_toldAny, .int qx_lastFault, .int qx_lastMoved, .int qx_lastScratched])), (qs, .inr (4, [.int qs_slides, .int qs_hearers, .int qs_nears, .int qs_lines, .int qs_pass, .int qs_spread, .int qs_lamp, .int qs_behind, .int qs_settingsTold, .ref qs_slideNames, .ref qs_pictures, .ref qs_heats, .ref qs_after, .ref qs_hearerNames, .ref qs_needs, .ref qs_likes, .ref qs_hates, .ref qs_near]))] (fun (r9 : Int32) (u9 : va_W) => (r9 = 0 ∧ u9 = [(qx, .inr (9, [.ref qt, .ref qs, .ref qd, .ref qa, .ref qb, .ref qh, .ref qr, .ref qe, .ref qp, .ref qf, .ref qn, .ref qi, .ref qw, .int qx_toldAny, .int qx_lastFault, .int qx_lastMoved, .int qx_lastScratched])), (qs, .inr (4, [.int qs_slides, .int qs_hearers, .int qs_nears, .int qs_lines, .int qs_pass, .int qs_spread, .int qs_lamp, .int qs_behind, .int qs_settingsTold, .ref qs_slideNames, .ref qs_pictures, .ref qs_heats, .ref qs_after, .ref qs_hearerNames, .ref qs_needs, .ref qs_likes, .ref qs_hates, .ref qs_near]))] ∧ (a1.toInt < 0 ∨ qs_slides.toInt ≤ a1.toInt)) ∨ (r9 = 1 ∧ u9 = [(qx, .inr (9, [.ref qt, .ref qs, .ref qd, .ref qa, .ref qb, .ref qh, .ref qr, .ref qe, .ref qp, .ref qf, .ref qn, .ref qi, .ref qw, .int qx_toldAny, .int qx_lastFault, .int qx_lastMoved, .int qx_lastScratched])), (qs, .inr (4, [.int qs_slides, .int qs_hearers, .int qs_nears, .int qs_lines, .int qs_pass, .int qs_spread, .int qs_lamp, .int qs_behind, .int qs_settingsTold, .ref qs_slideNames, .ref qs_pictures, .ref qs_heats, .ref qs_after, .ref qs_hearerNames, .ref qs_needs, .ref qs_likes, .ref qs_hates, .ref qs_near]))] ∧ (0 ≤ a1.toInt ∧ a1.toInt ≤ 5) ∧ (a1.toInt < qs_slides.toInt))) := by
  refine Ci.ofQ (by decide) (Nat.le_of_ble_eq_true rfl) ?_
  intro p e s m below meth c ls A args Q hQ B hw hl
  have C : CallFix p m c cX10_isSlide 2 s args gw "LanternState" := B.1
  have hl : lv_has ls 2 [(0, .ref qx), (1, .int a1)] := hl
  refine lv_iload_n C.1 C.2.1 dX10_isSlide_0 rfl (lv_at hl 1 rfl) ?_
  refine lv_if_lt (tgt := 19) C.1 C.2.1 dX10_isSlide_1 (by decide) (fun c1 => ?_) (fun c1 => ?_)
  · skip
    have c1 : a1.toInt < 0 := i_ltT (X := a1.toInt) (Y := 0) rfl rfl c1
    have bc1_a1 := i_bd a1
    refine lv_iconst (v := 0) C.1 C.2.1 dX10_isSlide_19 (by decide) ?_
    exact x_retzQ hQ B hw rfl (Or.inl ⟨rfl, rfl, (by omega)⟩) (Nat.le_of_ble_eq_true rfl) (Nat.le_of_ble_eq_true rfl) dX10_isSlide_20
  · skip
    have c1 : 0 ≤ a1.toInt := i_ltF (X := a1.toInt) (Y := 0) rfl rfl c1
    have bc1_a1 := i_bd a1
    refine lv_iload_n C.1 C.2.1 dX10_isSlide_4 rfl (lv_at hl 1 rfl) ?_
    refine lv_aload_n C.1 C.2.1 dX10_isSlide_5 rfl (lv_at hl 0 rfl) ?_
    refine x_get C hw iwX10 9 rfl 0 rfl 1 (by decide) kw447 rfl dX10_isSlide_6 ?_
    refine x_get C hw iwX5 4 rfl 1 rfl 0 (by decide) kw151 rfl dX10_isSlide_9 ?_
    refine lv_icmp_ge (tgt := 19) C.1 C.2.1 dX10_isSlide_12 (by decide) (fun c2 => ?_) (fun c2 => ?_)
    · skip
      have c2 : qs_slides.toInt ≤ a1.toInt := i_leT (X := qs_slides.toInt) (Y := a1.toInt) rfl rfl c2
      have bc2_a1 := i_bd a1
      refine lv_iconst (v := 0) C.1 C.2.1 dX10_isSlide_19 (by decide) ?_
      exact x_retzQ hQ B hw rfl (Or.inl ⟨rfl, rfl, (by omega)⟩) (Nat.le_of_ble_eq_true rfl) (Nat.le_of_ble_eq_true rfl) dX10_isSlide_20
    · skip
      have c2 : a1.toInt < qs_slides.toInt := i_leF (X := qs_slides.toInt) (Y := a1.toInt) rfl rfl c2
      have bc2_a1 := i_bd a1
      refine lv_iconst (v := 1) C.1 C.2.1 dX10_isSlide_15 (by decide) ?_
      refine lv_goto (tgt := 20) C.1 C.2.1 dX10_isSlide_16 (by decide) ?_
      exact x_retzQ hQ B hw rfl (Or.inr ⟨rfl, rfl, (by omega), (by omega)⟩) (Nat.le_of_ble_eq_true rfl) (Nat.le_of_ble_eq_true rfl) dX10_isSlide_20
theorem dX10_isHearer_0 : decode cX10_isHearer 0 = .ok (.iload_n 1, 1) := by decide +kernel
theorem dX10_isHearer_1 : decode cX10_isHearer 1 = .ok (.ifCond .lt 18, 3) := by decide +kernel
theorem dX10_isHearer_19 : decode cX10_isHearer 19 = .ok (.iconst 0, 1) := by decide +kernel
theorem dX10_isHearer_20 : decode cX10_isHearer 20 = .ok (.ireturn, 1) := by decide +kernel
theorem dX10_isHearer_4 : decode cX10_isHearer 4 = .ok (.iload_n 1, 1) := by decide +kernel
theorem dX10_isHearer_5 : decode cX10_isHearer 5 = .ok (.aload_n 0, 1) := by decide +kernel
theorem dX10_isHearer_6 : decode cX10_isHearer 6 = .ok (.getfield 19, 3) := by decide +kernel
theorem dX10_isHearer_9 : decode cX10_isHearer 9 = .ok (.getfield 258, 3) := by decide +kernel
theorem dX10_isHearer_12 : decode cX10_isHearer 12 = .ok (.if_icmp .ge 7, 3) := by decide +kernel
theorem dX10_isHearer_15 : decode cX10_isHearer 15 = .ok (.iconst 1, 1) := by decide +kernel
theorem dX10_isHearer_16 : decode cX10_isHearer 16 = .ok (.goto 4, 3) := by decide +kernel
set_option maxHeartbeats 4000000 in
set_option maxRecDepth 100000 in
theorem s_X10_isHearer {l : Launch} {G : Gc} (qx : Nat) (a1 : Int32) (qt : Nat) (qs : Nat) (qd : Nat) (qa : Nat) (qb : Nat) (qh : Nat) (qr : Nat) (qe : Nat) (qp : Nat) (qf : Nat) (qn : Nat) (qi : Nat) (qw : Nat) (qx_toldAny : Int32) (qx_lastFault : Int32) (qx_lastMoved : Int32) (qx_lastScratched : Int32) (qs_slides : Int32) (qs_hearers : Int32) (qs_nears : Int32) (qs_lines : Int32) (qs_pass : Int32) (qs_spread : Int32) (qs_lamp : Int32) (qs_behind : Int32) (qs_settingsTold : Int32) (qs_slideNames : Nat) (qs_pictures : Nat) (qs_heats : Nat) (qs_after : Nat) (qs_hearerNames : Nat) (qs_needs : Nat) (qs_likes : Nat) (qs_hates : Nat) (qs_near : Nat) (hi_qs_hearers : 0 ≤ qs_hearers.toInt ∧ qs_hearers.toInt ≤ 8) : Ci l yX10_isHearer cX10_isHearer 2 (some .boolean) 0 0 0 G [.ref qx, .int a1] [(qx, .inr (9, [.ref qt, .ref qs, .ref qd, .ref qa, .ref qb, .ref qh, .ref qr, .ref qe, .ref qp, .ref qf, .ref qn, .ref qi, .ref qw, .int qx_toldAny, .int qx_lastFault, .int qx_lastMoved, .int qx_lastScratched])), (qs, .inr (4, [.int qs_slides, .int qs_hearers, .int qs_nears, .int qs_lines, .int qs_pass, .int qs_spread, .int qs_lamp, .int qs_behind, .int qs_settingsTold, .ref qs_slideNames, .ref qs_pictures, .ref qs_heats, .ref qs_after, .ref qs_hearerNames, .ref qs_needs, .ref qs_likes, .ref qs_hates, .ref qs_near]))] (fun (r9 : Int32) (u9 : va_W) => (r9 = 0 ∧ u9 = [(qx, .inr (9, [.ref qt, .ref qs, .ref qd, .ref qa, .ref qb, .ref qh, .ref qr, .ref qe, .ref qp, .ref qf, .ref qn, .ref qi, .ref qw, .int qx_toldAny, .int qx_lastFault, .int qx_lastMoved, .int qx_lastScratched])), (qs, .inr (4, [.int qs_slides, .int qs_hearers, .int qs_nears, .int qs_lines, .int qs_pass, .int qs_spread, .int qs_lamp, .int qs_behind, .int qs_settingsTold, .ref qs_slideNames, .ref qs_pictures, .ref qs_heats, .ref qs_after, .ref qs_hearerNames, .ref qs_needs, .ref qs_likes, .ref qs_hates, .ref qs_near]))] ∧ (a1.toInt < 0 ∨ qs_hearers.toInt ≤ a1.toInt)) ∨ (r9 = 1 ∧ u9 = [(qx, .inr (9, [.ref qt, .ref qs, .ref qd, .ref qa, .ref qb, .ref qh, .ref qr, .ref qe, .ref qp, .ref qf, .ref qn, .ref qi, .ref qw, .int qx_toldAny, .int qx_lastFault, .int qx_lastMoved, .int qx_lastScratched])), (qs, .inr (4, [.int qs_slides, .int qs_hearers, .int qs_nears, .int qs_lines, .int qs_pass, .int qs_spread, .int qs_lamp, .int qs_behind, .int qs_settingsTold, .ref qs_slideNames, .ref qs_pictures, .ref qs_heats, .ref qs_after, .ref qs_hearerNames, .ref qs_needs, .ref qs_likes, .ref qs_hates, .ref qs_near]))] ∧ (0 ≤ a1.toInt ∧ a1.toInt ≤ 7) ∧ (a1.toInt < qs_hearers.toInt))) := by
  refine Ci.ofQ (by decide) (Nat.le_of_ble_eq_true rfl) ?_
  intro p e s m below meth c ls A args Q hQ B hw hl
  have C : CallFix p m c cX10_isHearer 2 s args gw "LanternState" := B.1
  have hl : lv_has ls 2 [(0, .ref qx), (1, .int a1)] := hl
  refine lv_iload_n C.1 C.2.1 dX10_isHearer_0 rfl (lv_at hl 1 rfl) ?_
  refine lv_if_lt (tgt := 19) C.1 C.2.1 dX10_isHearer_1 (by decide) (fun c1 => ?_) (fun c1 => ?_)
  · skip
    have c1 : a1.toInt < 0 := i_ltT (X := a1.toInt) (Y := 0) rfl rfl c1
    have bc1_a1 := i_bd a1
    refine lv_iconst (v := 0) C.1 C.2.1 dX10_isHearer_19 (by decide) ?_
    exact x_retzQ hQ B hw rfl (Or.inl ⟨rfl, rfl, (by omega)⟩) (Nat.le_of_ble_eq_true rfl) (Nat.le_of_ble_eq_true rfl) dX10_isHearer_20
  · skip
    have c1 : 0 ≤ a1.toInt := i_ltF (X := a1.toInt) (Y := 0) rfl rfl c1
    have bc1_a1 := i_bd a1
    refine lv_iload_n C.1 C.2.1 dX10_isHearer_4 rfl (lv_at hl 1 rfl) ?_
    refine lv_aload_n C.1 C.2.1 dX10_isHearer_5 rfl (lv_at hl 0 rfl) ?_
    refine x_get C hw iwX10 9 rfl 0 rfl 1 (by decide) kw447 rfl dX10_isHearer_6 ?_
    refine x_get C hw iwX5 4 rfl 1 rfl 1 (by decide) kw155 rfl dX10_isHearer_9 ?_
    refine lv_icmp_ge (tgt := 19) C.1 C.2.1 dX10_isHearer_12 (by decide) (fun c2 => ?_) (fun c2 => ?_)
    · skip
      have c2 : qs_hearers.toInt ≤ a1.toInt := i_leT (X := qs_hearers.toInt) (Y := a1.toInt) rfl rfl c2
      have bc2_a1 := i_bd a1
      refine lv_iconst (v := 0) C.1 C.2.1 dX10_isHearer_19 (by decide) ?_
      exact x_retzQ hQ B hw rfl (Or.inl ⟨rfl, rfl, (by omega)⟩) (Nat.le_of_ble_eq_true rfl) (Nat.le_of_ble_eq_true rfl) dX10_isHearer_20
    · skip
      have c2 : a1.toInt < qs_hearers.toInt := i_leF (X := qs_hearers.toInt) (Y := a1.toInt) rfl rfl c2
      have bc2_a1 := i_bd a1
      refine lv_iconst (v := 1) C.1 C.2.1 dX10_isHearer_15 (by decide) ?_
      refine lv_goto (tgt := 20) C.1 C.2.1 dX10_isHearer_16 (by decide) ?_
      exact x_retzQ hQ B hw rfl (Or.inr ⟨rfl, rfl, (by omega), (by omega)⟩) (Nat.le_of_ble_eq_true rfl) (Nat.le_of_ble_eq_true rfl) dX10_isHearer_20
theorem dX10_isWay_0 : decode cX10_isWay 0 = .ok (.iload_n 0, 1) := by decide +kernel
theorem dX10_isWay_1 : decode cX10_isWay 1 = .ok (.ifCond .lt 12, 3) := by decide +kernel
theorem dX10_isWay_13 : decode cX10_isWay 13 = .ok (.iconst 0, 1) := by decide +kernel
theorem dX10_isWay_14 : decode cX10_isWay 14 = .ok (.ireturn, 1) := by decide +kernel
theorem dX10_isWay_4 : decode cX10_isWay 4 = .ok (.iload_n 0, 1) := by decide +kernel
theorem dX10_isWay_5 : decode cX10_isWay 5 = .ok (.iconst 4, 1) := by decide +kernel
theorem dX10_isWay_6 : decode cX10_isWay 6 = .ok (.if_icmp .ge 7, 3) := by decide +kernel
theorem dX10_isWay_9 : decode cX10_isWay 9 = .ok (.iconst 1, 1) := by decide +kernel
theorem dX10_isWay_10 : decode cX10_isWay 10 = .ok (.goto 4, 3) := by decide +kernel
set_option maxHeartbeats 4000000 in
set_option maxRecDepth 100000 in
theorem s_X10_isWay {l : Launch} {G : Gc} (a1 : Int32)  : Ci l yX10_isWay cX10_isWay 1 (some .boolean) 0 0 0 G [.int a1] [] (fun (r9 : Int32) (u9 : va_W) => (r9 = 0 ∧ u9 = []) ∨ (r9 = 1 ∧ u9 = [] ∧ (0 ≤ a1.toInt ∧ a1.toInt ≤ 3))) := by
  refine Ci.ofQ (by decide) (Nat.le_of_ble_eq_true rfl) ?_
  intro p e s m below meth c ls A args Q hQ B hw hl
  have C : CallFix p m c cX10_isWay 1 s args gw "LanternState" := B.1
  have hl : lv_has ls 1 [(0, .int a1)] := hl
  refine lv_iload_n C.1 C.2.1 dX10_isWay_0 rfl (lv_at hl 0 rfl) ?_
  refine lv_if_lt (tgt := 13) C.1 C.2.1 dX10_isWay_1 (by decide) (fun c1 => ?_) (fun c1 => ?_)
  · skip
    have c1 : a1.toInt < 0 := i_ltT (X := a1.toInt) (Y := 0) rfl rfl c1
    have bc1_a1 := i_bd a1
    refine lv_iconst (v := 0) C.1 C.2.1 dX10_isWay_13 (by decide) ?_
    exact x_retzQ hQ B hw rfl (Or.inl ⟨rfl, rfl⟩) (Nat.le_of_ble_eq_true rfl) (Nat.le_of_ble_eq_true rfl) dX10_isWay_14
  · skip
    have c1 : 0 ≤ a1.toInt := i_ltF (X := a1.toInt) (Y := 0) rfl rfl c1
    have bc1_a1 := i_bd a1
    refine lv_iload_n C.1 C.2.1 dX10_isWay_4 rfl (lv_at hl 0 rfl) ?_
    refine lv_iconst (v := 4) C.1 C.2.1 dX10_isWay_5 (by decide) ?_
    refine lv_icmp_ge (tgt := 13) C.1 C.2.1 dX10_isWay_6 (by decide) (fun c2 => ?_) (fun c2 => ?_)
    · skip
      have c2 : 4 ≤ a1.toInt := i_leT (X := 4) (Y := a1.toInt) rfl rfl c2
      have bc2_a1 := i_bd a1
      refine lv_iconst (v := 0) C.1 C.2.1 dX10_isWay_13 (by decide) ?_
      exact x_retzQ hQ B hw rfl (Or.inl ⟨rfl, rfl⟩) (Nat.le_of_ble_eq_true rfl) (Nat.le_of_ble_eq_true rfl) dX10_isWay_14
    · skip
      have c2 : a1.toInt < 4 := i_leF (X := 4) (Y := a1.toInt) rfl rfl c2
      have bc2_a1 := i_bd a1
      refine lv_iconst (v := 1) C.1 C.2.1 dX10_isWay_9 (by decide) ?_
      refine lv_goto (tgt := 14) C.1 C.2.1 dX10_isWay_10 (by decide) ?_
      exact x_retzQ hQ B hw rfl (Or.inr ⟨rfl, rfl, (by omega)⟩) (Nat.le_of_ble_eq_true rfl) (Nat.le_of_ble_eq_true rfl) dX10_isWay_14
theorem dX10_isPlace_0 : decode cX10_isPlace 0 = .ok (.iload_n 0, 1) := by decide +kernel
theorem dX10_isPlace_1 : decode cX10_isPlace 1 = .ok (.ifCond .lt 12, 3) := by decide +kernel
theorem dX10_isPlace_13 : decode cX10_isPlace 13 = .ok (.iconst 0, 1) := by decide +kernel
theorem dX10_isPlace_14 : decode cX10_isPlace 14 = .ok (.ireturn, 1) := by decide +kernel
theorem dX10_isPlace_4 : decode cX10_isPlace 4 = .ok (.iload_n 0, 1) := by decide +kernel
theorem dX10_isPlace_5 : decode cX10_isPlace 5 = .ok (.iconst 4, 1) := by decide +kernel
theorem dX10_isPlace_6 : decode cX10_isPlace 6 = .ok (.if_icmp .ge 7, 3) := by decide +kernel
theorem dX10_isPlace_9 : decode cX10_isPlace 9 = .ok (.iconst 1, 1) := by decide +kernel
theorem dX10_isPlace_10 : decode cX10_isPlace 10 = .ok (.goto 4, 3) := by decide +kernel
set_option maxHeartbeats 4000000 in
set_option maxRecDepth 100000 in
theorem s_X10_isPlace {l : Launch} {G : Gc} (a1 : Int32)  : Ci l yX10_isPlace cX10_isPlace 1 (some .boolean) 0 0 0 G [.int a1] [] (fun (r9 : Int32) (u9 : va_W) => (r9 = 0 ∧ u9 = []) ∨ (r9 = 1 ∧ u9 = [] ∧ (0 ≤ a1.toInt ∧ a1.toInt ≤ 3))) := by
  refine Ci.ofQ (by decide) (Nat.le_of_ble_eq_true rfl) ?_
  intro p e s m below meth c ls A args Q hQ B hw hl
  have C : CallFix p m c cX10_isPlace 1 s args gw "LanternState" := B.1
  have hl : lv_has ls 1 [(0, .int a1)] := hl
  refine lv_iload_n C.1 C.2.1 dX10_isPlace_0 rfl (lv_at hl 0 rfl) ?_
  refine lv_if_lt (tgt := 13) C.1 C.2.1 dX10_isPlace_1 (by decide) (fun c1 => ?_) (fun c1 => ?_)
  · skip
    have c1 : a1.toInt < 0 := i_ltT (X := a1.toInt) (Y := 0) rfl rfl c1
    have bc1_a1 := i_bd a1
    refine lv_iconst (v := 0) C.1 C.2.1 dX10_isPlace_13 (by decide) ?_
    exact x_retzQ hQ B hw rfl (Or.inl ⟨rfl, rfl⟩) (Nat.le_of_ble_eq_true rfl) (Nat.le_of_ble_eq_true rfl) dX10_isPlace_14
  · skip
    have c1 : 0 ≤ a1.toInt := i_ltF (X := a1.toInt) (Y := 0) rfl rfl c1
    have bc1_a1 := i_bd a1
    refine lv_iload_n C.1 C.2.1 dX10_isPlace_4 rfl (lv_at hl 0 rfl) ?_
    refine lv_iconst (v := 4) C.1 C.2.1 dX10_isPlace_5 (by decide) ?_
    refine lv_icmp_ge (tgt := 13) C.1 C.2.1 dX10_isPlace_6 (by decide) (fun c2 => ?_) (fun c2 => ?_)
    · skip
      have c2 : 4 ≤ a1.toInt := i_leT (X := 4) (Y := a1.toInt) rfl rfl c2
      have bc2_a1 := i_bd a1
      refine lv_iconst (v := 0) C.1 C.2.1 dX10_isPlace_13 (by decide) ?_
      exact x_retzQ hQ B hw rfl (Or.inl ⟨rfl, rfl⟩) (Nat.le_of_ble_eq_true rfl) (Nat.le_of_ble_eq_true rfl) dX10_isPlace_14
    · skip
      have c2 : a1.toInt < 4 := i_leF (X := 4) (Y := a1.toInt) rfl rfl c2
      have bc2_a1 := i_bd a1
      refine lv_iconst (v := 1) C.1 C.2.1 dX10_isPlace_9 (by decide) ?_
      refine lv_goto (tgt := 14) C.1 C.2.1 dX10_isPlace_10 (by decide) ?_
      exact x_retzQ hQ B hw rfl (Or.inr ⟨rfl, rfl, (by omega)⟩) (Nat.le_of_ble_eq_true rfl) (Nat.le_of_ble_eq_true rfl) dX10_isPlace_14
theorem dX10_isSeat_0 : decode cX10_isSeat 0 = .ok (.iload_n 0, 1) := by decide +kernel
theorem dX10_isSeat_1 : decode cX10_isSeat 1 = .ok (.ifCond .eq 8, 3) := by decide +kernel
theorem dX10_isSeat_9 : decode cX10_isSeat 9 = .ok (.iconst 1, 1) := by decide +kernel
theorem dX10_isSeat_10 : decode cX10_isSeat 10 = .ok (.goto 4, 3) := by decide +kernel
theorem dX10_isSeat_14 : decode cX10_isSeat 14 = .ok (.ireturn, 1) := by decide +kernel
theorem dX10_isSeat_4 : decode cX10_isSeat 4 = .ok (.iload_n 0, 1) := by decide +kernel
theorem dX10_isSeat_5 : decode cX10_isSeat 5 = .ok (.iconst 1, 1) := by decide +kernel
theorem dX10_isSeat_6 : decode cX10_isSeat 6 = .ok (.if_icmp .ne 7, 3) := by decide +kernel
theorem dX10_isSeat_13 : decode cX10_isSeat 13 = .ok (.iconst 0, 1) := by decide +kernel
set_option maxHeartbeats 4000000 in
set_option maxRecDepth 100000 in
theorem s_X10_isSeat {l : Launch} {G : Gc} (a1 : Int32)  : Ci l yX10_isSeat cX10_isSeat 1 (some .boolean) 0 0 0 G [.int a1] [] (fun (r9 : Int32) (u9 : va_W) => (r9 = 0 ∧ u9 = []) ∨ (r9 = 1 ∧ u9 = [] ∧ (0 ≤ a1.toInt ∧ a1.toInt ≤ 1))) := by
  refine Ci.ofQ (by decide) (Nat.le_of_ble_eq_true rfl) ?_
  intro p e s m below meth c ls A args Q hQ B hw hl
  have C : CallFix p m c cX10_isSeat 1 s args gw "LanternState" := B.1
  have hl : lv_has ls 1 [(0, .int a1)] := hl
  refine lv_iload_n C.1 C.2.1 dX10_isSeat_0 rfl (lv_at hl 0 rfl) ?_
  refine lv_if_eq (tgt := 9) C.1 C.2.1 dX10_isSeat_1 (by decide) (fun c1 => ?_) (fun c1 => ?_)
  · skip
    have c1 : a1.toInt = 0 := i_eqT (X := a1.toInt) (Y := 0) rfl rfl c1
    have bc1_a1 := i_bd a1
    refine lv_iconst (v := 1) C.1 C.2.1 dX10_isSeat_9 (by decide) ?_
    refine lv_goto (tgt := 14) C.1 C.2.1 dX10_isSeat_10 (by decide) ?_
    exact x_retzQ hQ B hw rfl (Or.inr ⟨rfl, rfl, (by omega)⟩) (Nat.le_of_ble_eq_true rfl) (Nat.le_of_ble_eq_true rfl) dX10_isSeat_14
  · skip
    have c1 : a1.toInt ≠ 0 := i_eqF (X := a1.toInt) (Y := 0) rfl rfl c1
    have bc1_a1 := i_bd a1
    refine lv_iload_n C.1 C.2.1 dX10_isSeat_4 rfl (lv_at hl 0 rfl) ?_
    refine lv_iconst (v := 1) C.1 C.2.1 dX10_isSeat_5 (by decide) ?_
    refine lv_icmp_ne (tgt := 13) C.1 C.2.1 dX10_isSeat_6 (by decide) (fun c2 => ?_) (fun c2 => ?_)
    · skip
      have c2 : a1.toInt ≠ 1 := i_eqF (X := a1.toInt) (Y := 1) rfl rfl c2
      have bc2_a1 := i_bd a1
      refine lv_iconst (v := 0) C.1 C.2.1 dX10_isSeat_13 (by decide) ?_
      exact x_retzQ hQ B hw rfl (Or.inl ⟨rfl, rfl⟩) (Nat.le_of_ble_eq_true rfl) (Nat.le_of_ble_eq_true rfl) dX10_isSeat_14
    · skip
      have c2 : a1.toInt = 1 := i_eqT (X := a1.toInt) (Y := 1) rfl rfl c2
      have bc2_a1 := i_bd a1
      refine lv_iconst (v := 1) C.1 C.2.1 dX10_isSeat_9 (by decide) ?_
      refine lv_goto (tgt := 14) C.1 C.2.1 dX10_isSeat_10 (by decide) ?_
      exact x_retzQ hQ B hw rfl (Or.inr ⟨rfl, rfl, (by omega)⟩) (Nat.le_of_ble_eq_true rfl) (Nat.le_of_ble_eq_true rfl) dX10_isSeat_14
theorem dX10_sighers_0 : decode cX10_sighers 0 = .ok (.aload_n 0, 1) := by decide +kernel
theorem dX10_sighers_1 : decode cX10_sighers 1 = .ok (.getfield 19, 3) := by decide +kernel
theorem dX10_sighers_4 : decode cX10_sighers 4 = .ok (.aload_n 0, 1) := by decide +kernel
theorem dX10_sighers_5 : decode cX10_sighers 5 = .ok (.getfield 29, 3) := by decide +kernel
theorem dX10_sighers_8 : decode cX10_sighers 8 = .ok (.getfield 158, 3) := by decide +kernel
theorem dX10_sighers_11 : decode cX10_sighers 11 = .ok (.iload_n 1, 1) := by decide +kernel
theorem dX10_sighers_12 : decode cX10_sighers 12 = .ok (.iaload, 1) := by decide +kernel
theorem dX10_sighers_13 : decode cX10_sighers 13 = .ok (.iload_n 2, 1) := by decide +kernel
theorem dX10_sighers_14 : decode cX10_sighers 14 = .ok (.invokestatic 182, 3) := by decide +kernel
theorem dX10_sighers_17 : decode cX10_sighers 17 = .ok (.aload_n 0, 1) := by decide +kernel
theorem dX10_sighers_18 : decode cX10_sighers 18 = .ok (.getfield 29, 3) := by decide +kernel
theorem dX10_sighers_21 : decode cX10_sighers 21 = .ok (.getfield 208, 3) := by decide +kernel
theorem dX10_sighers_24 : decode cX10_sighers 24 = .ok (.invokevirtual 353, 3) := by decide +kernel
theorem dX10_sighers_27 : decode cX10_sighers 27 = .ok (.ireturn, 1) := by decide +kernel
set_option maxHeartbeats 4000000 in
set_option maxRecDepth 100000 in
theorem s_X10_sighers {l : Launch} {G : Gc} (qx : Nat) (a1 : Int32) (a2 : Int32) (qt : Nat) (qs : Nat) (qd : Nat) (qa : Nat) (qb : Nat) (qh : Nat) (qr : Nat) (qe : Nat) (qp : Nat) (qf : Nat) (qn : Nat) (qi : Nat) (qw : Nat) (qx_toldAny : Int32) (qx_lastFault : Int32) (qx_lastMoved : Int32) (qx_lastScratched : Int32) (qs_slides : Int32) (qs_hearers : Int32) (qs_nears : Int32) (qs_lines : Int32) (qs_pass : Int32) (qs_spread : Int32) (qs_lamp : Int32) (qs_behind : Int32) (qs_settingsTold : Int32) (qs_slideNames : Nat) (qs_pictures : Nat) (qs_heats : Nat) (qs_after : Nat) (qs_hearerNames : Nat) (qs_needs : Nat) (qs_likes : Nat) (qs_hates : Nat) (qs_near : Nat) (qs_needs_c : Nat → Int32) (qs_likes_c : Nat → Int32) (qs_hates_c : Nat → Int32) (qs_near_c : Nat → Int32) (qa_hour : Int32) (qa_heat : Int32) (qa_black : Int32) (qa_so : Int32) (qa_cracked : Int32) (qa_behind : Int32) (qa_allSighs : Int32) (qa_seed : Int32) (qa_pictures : Nat) (qa_shown : Nat) (qa_sighed : Nat) (qa_pictures_c : Nat → Int32) (hi_a1 : 0 ≤ a1.toInt ∧ a1.toInt ≤ 5) (hi_qs_hearers : 0 ≤ qs_hearers.toInt ∧ qs_hearers.toInt ≤ 8) : Ci l yX10_sighers cX10_sighers 3 (some .int) 3 0 0 G [.ref qx, .int a1, .int a2] [(qx, .inr (9, [.ref qt, .ref qs, .ref qd, .ref qa, .ref qb, .ref qh, .ref qr, .ref qe, .ref qp, .ref qf, .ref qn, .ref qi, .ref qw, .int qx_toldAny, .int qx_lastFault, .int qx_lastMoved, .int qx_lastScratched])), (qs, .inr (4, [.int qs_slides, .int qs_hearers, .int qs_nears, .int qs_lines, .int qs_pass, .int qs_spread, .int qs_lamp, .int qs_behind, .int qs_settingsTold, .ref qs_slideNames, .ref qs_pictures, .ref qs_heats, .ref qs_after, .ref qs_hearerNames, .ref qs_needs, .ref qs_likes, .ref qs_hates, .ref qs_near])), (qs_needs, eI G 8 qs_needs_c), (qs_likes, eI G 8 qs_likes_c), (qs_hates, eI G 8 qs_hates_c), (qs_near, eI G 8 qs_near_c), (qa, .inr (7, [.int qa_hour, .int qa_heat, .int qa_black, .int qa_so, .int qa_cracked, .int qa_behind, .int qa_allSighs, .int qa_seed, .ref qa_pictures, .ref qa_shown, .ref qa_sighed])), (qa_pictures, eI G 6 qa_pictures_c)] (fun (r9 : Int32) (u9 : va_W) => ∃ (r_x : Int32), r9 = r_x ∧ u9 = [(qx, .inr (9, [.ref qt, .ref qs, .ref qd, .ref qa, .ref qb, .ref qh, .ref qr, .ref qe, .ref qp, .ref qf, .ref qn, .ref qi, .ref qw, .int qx_toldAny, .int qx_lastFault, .int qx_lastMoved, .int qx_lastScratched])), (qs, .inr (4, [.int qs_slides, .int qs_hearers, .int qs_nears, .int qs_lines, .int qs_pass, .int qs_spread, .int qs_lamp, .int qs_behind, .int qs_settingsTold, .ref qs_slideNames, .ref qs_pictures, .ref qs_heats, .ref qs_after, .ref qs_hearerNames, .ref qs_needs, .ref qs_likes, .ref qs_hates, .ref qs_near])), (qs_needs, eI G 8 qs_needs_c), (qs_likes, eI G 8 qs_likes_c), (qs_hates, eI G 8 qs_hates_c), (qs_near, eI G 8 qs_near_c), (qa, .inr (7, [.int qa_hour, .int qa_heat, .int qa_black, .int qa_so, .int qa_cracked, .int qa_behind, .int qa_allSighs, .int qa_seed, .ref qa_pictures, .ref qa_shown, .ref qa_sighed])), (qa_pictures, eI G 6 qa_pictures_c)]) := by
  refine Ci.ofQ (by decide) (Nat.le_of_ble_eq_true rfl) ?_
  intro p e s m below meth c ls A args Q hQ B hw hl
  have C : CallFix p m c cX10_sighers 3 s args gw "LanternState" := B.1
  have hl : lv_has ls 3 [(0, .ref qx), (1, .int a1), (2, .int a2)] := hl
  refine lv_aload_n C.1 C.2.1 dX10_sighers_0 rfl (lv_at hl 0 rfl) ?_
  refine x_get C hw iwX10 9 rfl 0 rfl 1 (by decide) kw447 rfl dX10_sighers_1 ?_
  refine lv_aload_n C.1 C.2.1 dX10_sighers_4 rfl (lv_at hl 0 rfl) ?_
  refine x_get C hw iwX10 9 rfl 0 rfl 3 (by decide) kw449 rfl dX10_sighers_5 ?_
  refine x_get C hw iwX8 7 rfl 6 rfl 8 (by decide) kw265 rfl dX10_sighers_8 ?_
  refine lv_iload_n C.1 C.2.1 dX10_sighers_11 rfl (lv_at hl 1 rfl) ?_
  refine x_iald (v := (qa_pictures_c a1.toNatClampNeg)) C hw 7 rfl (i_in (by omega) (by omega)) rfl dX10_sighers_12 (x_gen (fun v1 => ?_))
  refine lv_iload_n C.1 C.2.1 dX10_sighers_13 rfl (lv_at hl 2 rfl) ?_
  refine x_calliS (As := [.int v1, .int a2]) (rest := [.ref qs]) (wr := [(qx, .inr (9, [.ref qt, .ref qs, .ref qd, .ref qa, .ref qb, .ref qh, .ref qr, .ref qe, .ref qp, .ref qf, .ref qn, .ref qi, .ref qw, .int qx_toldAny, .int qx_lastFault, .int qx_lastMoved, .int qx_lastScratched])), (qs, .inr (4, [.int qs_slides, .int qs_hearers, .int qs_nears, .int qs_lines, .int qs_pass, .int qs_spread, .int qs_lamp, .int qs_behind, .int qs_settingsTold, .ref qs_slideNames, .ref qs_pictures, .ref qs_heats, .ref qs_after, .ref qs_hearerNames, .ref qs_needs, .ref qs_likes, .ref qs_hates, .ref qs_near])), (qs_needs, eI G 8 qs_needs_c), (qs_likes, eI G 8 qs_likes_c), (qs_hates, eI G 8 qs_hates_c), (qs_near, eI G 8 qs_near_c), (qa, .inr (7, [.int qa_hour, .int qa_heat, .int qa_black, .int qa_so, .int qa_cracked, .int qa_behind, .int qa_allSighs, .int qa_seed, .ref qa_pictures, .ref qa_shown, .ref qa_sighed])), (qa_pictures, eI G 6 qa_pictures_c)]) C hw (s_X4_turn v1 a2) mwX4_turn kw662 [] [0, 1, 2, 3, 4, 5, 6, 7] rfl rfl rfl rfl (by decide) rfl hl.1 rfl (Nat.le_of_ble_eq_true rfl) ⟨(Nat.le_of_ble_eq_true rfl), (Nat.le_of_ble_eq_true rfl)⟩ ⟨(Nat.le_of_ble_eq_true rfl), (Nat.le_of_ble_eq_true rfl)⟩ dX10_sighers_14 (fun r2 u9 H locs hp9 hw => ?_)
  obtain ⟨x3, rfl, rfl⟩ := hp9
  have hw : Wd G s A [(qx, .inr (9, [.ref qt, .ref qs, .ref qd, .ref qa, .ref qb, .ref qh, .ref qr, .ref qe, .ref qp, .ref qf, .ref qn, .ref qi, .ref qw, .int qx_toldAny, .int qx_lastFault, .int qx_lastMoved, .int qx_lastScratched])), (qs, .inr (4, [.int qs_slides, .int qs_hearers, .int qs_nears, .int qs_lines, .int qs_pass, .int qs_spread, .int qs_lamp, .int qs_behind, .int qs_settingsTold, .ref qs_slideNames, .ref qs_pictures, .ref qs_heats, .ref qs_after, .ref qs_hearerNames, .ref qs_needs, .ref qs_likes, .ref qs_hates, .ref qs_near])), (qs_needs, eI G 8 qs_needs_c), (qs_likes, eI G 8 qs_likes_c), (qs_hates, eI G 8 qs_hates_c), (qs_near, eI G 8 qs_near_c), (qa, .inr (7, [.int qa_hour, .int qa_heat, .int qa_black, .int qa_so, .int qa_cracked, .int qa_behind, .int qa_allSighs, .int qa_seed, .ref qa_pictures, .ref qa_shown, .ref qa_sighed])), (qa_pictures, eI G 6 qa_pictures_c)] H _ := hw
  refine lv_aload_n C.1 C.2.1 dX10_sighers_17 rfl (lv_at hl 0 rfl) ?_
  refine x_get C hw iwX10 9 rfl 0 rfl 3 (by decide) kw449 rfl dX10_sighers_18 ?_
  refine x_get C hw iwX8 7 rfl 6 rfl 5 (by decide) kw258 rfl dX10_sighers_21 ?_
  refine x_calliV (As := [.int r2, .int qa_behind]) (rest := []) (wr := [(qx, .inr (9, [.ref qt, .ref qs, .ref qd, .ref qa, .ref qb, .ref qh, .ref qr, .ref qe, .ref qp, .ref qf, .ref qn, .ref qi, .ref qw, .int qx_toldAny, .int qx_lastFault, .int qx_lastMoved, .int qx_lastScratched])), (qa, .inr (7, [.int qa_hour, .int qa_heat, .int qa_black, .int qa_so, .int qa_cracked, .int qa_behind, .int qa_allSighs, .int qa_seed, .ref qa_pictures, .ref qa_shown, .ref qa_sighed])), (qa_pictures, eI G 6 qa_pictures_c)]) C hw (s_X5_sighers qs r2 qa_behind qs_slides qs_hearers qs_nears qs_lines qs_pass qs_spread qs_lamp qs_behind qs_settingsTold qs_slideNames qs_pictures qs_heats qs_after qs_hearerNames qs_needs qs_likes qs_hates qs_near qs_needs_c qs_likes_c qs_hates_c qs_near_c (by omega)) mwX5_sighers kw803 [1, 2, 3, 4, 5] [0, 6, 7] rfl rfl rfl rfl (by decide) 0 rfl rfl rfl rfl hl.1 rfl (Nat.le_of_ble_eq_true rfl) ⟨(Nat.le_of_ble_eq_true rfl), (Nat.le_of_ble_eq_true rfl)⟩ ⟨(Nat.le_of_ble_eq_true rfl), (Nat.le_of_ble_eq_true rfl)⟩ dX10_sighers_24 (fun r4 u9 H locs hp9 hw => ?_)
  obtain ⟨x5, rfl, rfl⟩ := hp9
  have hw : Wd G s A [(qx, .inr (9, [.ref qt, .ref qs, .ref qd, .ref qa, .ref qb, .ref qh, .ref qr, .ref qe, .ref qp, .ref qf, .ref qn, .ref qi, .ref qw, .int qx_toldAny, .int qx_lastFault, .int qx_lastMoved, .int qx_lastScratched])), (qa, .inr (7, [.int qa_hour, .int qa_heat, .int qa_black, .int qa_so, .int qa_cracked, .int qa_behind, .int qa_allSighs, .int qa_seed, .ref qa_pictures, .ref qa_shown, .ref qa_sighed])), (qa_pictures, eI G 6 qa_pictures_c), (qs, .inr (4, [.int qs_slides, .int qs_hearers, .int qs_nears, .int qs_lines, .int qs_pass, .int qs_spread, .int qs_lamp, .int qs_behind, .int qs_settingsTold, .ref qs_slideNames, .ref qs_pictures, .ref qs_heats, .ref qs_after, .ref qs_hearerNames, .ref qs_needs, .ref qs_likes, .ref qs_hates, .ref qs_near])), (qs_needs, eI G 8 qs_needs_c), (qs_likes, eI G 8 qs_likes_c), (qs_hates, eI G 8 qs_hates_c), (qs_near, eI G 8 qs_near_c)] H _ := hw
  have hw := hw.sub (w' := [(qx, .inr (9, [.ref qt, .ref qs, .ref qd, .ref qa, .ref qb, .ref qh, .ref qr, .ref qe, .ref qp, .ref qf, .ref qn, .ref qi, .ref qw, .int qx_toldAny, .int qx_lastFault, .int qx_lastMoved, .int qx_lastScratched])), (qs, .inr (4, [.int qs_slides, .int qs_hearers, .int qs_nears, .int qs_lines, .int qs_pass, .int qs_spread, .int qs_lamp, .int qs_behind, .int qs_settingsTold, .ref qs_slideNames, .ref qs_pictures, .ref qs_heats, .ref qs_after, .ref qs_hearerNames, .ref qs_needs, .ref qs_likes, .ref qs_hates, .ref qs_near])), (qs_needs, eI G 8 qs_needs_c), (qs_likes, eI G 8 qs_likes_c), (qs_hates, eI G 8 qs_hates_c), (qs_near, eI G 8 qs_near_c), (qa, .inr (7, [.int qa_hour, .int qa_heat, .int qa_black, .int qa_so, .int qa_cracked, .int qa_behind, .int qa_allSighs, .int qa_seed, .ref qa_pictures, .ref qa_shown, .ref qa_sighed])), (qa_pictures, eI G 6 qa_pictures_c)]) [0, 3, 4, 5, 6, 7, 1, 2] rfl rfl
  exact x_retiQ hQ B hw ⟨r4, rfl, rfl⟩ (Nat.le_of_ble_eq_true rfl) (Nat.le_of_ble_eq_true rfl) dX10_sighers_27
theorem dX10_keptShowing_0 : decode cX10_keptShowing 0 = .ok (.iload_n 1, 1) := by decide +kernel
theorem dX10_keptShowing_1 : decode cX10_keptShowing 1 = .ok (.ifCond .ge 9, 3) := by decide +kernel
theorem dX10_keptShowing_10 : decode cX10_keptShowing 10 = .ok (.aload_n 0, 1) := by decide +kernel
theorem dX10_keptShowing_11 : decode cX10_keptShowing 11 = .ok (.getfield 39, 3) := by decide +kernel
theorem dX10_keptShowing_14 : decode cX10_keptShowing 14 = .ok (.aload_n 0, 1) := by decide +kernel
theorem dX10_keptShowing_15 : decode cX10_keptShowing 15 = .ok (.getfield 33, 3) := by decide +kernel
theorem dX10_keptShowing_18 : decode cX10_keptShowing 18 = .ok (.invokevirtual 242, 3) := by decide +kernel
theorem mwX2_keep : MwV yX2_keep cX2_keep 2 none 1 := ⟨⟨kw743, kw9, by decide +kernel⟩, kw741, kw742⟩
theorem dX10_keptShowing_21 : decode cX10_keptShowing 21 = .ok (.iload_n 1, 1) := by decide +kernel
theorem dX10_keptShowing_22 : decode cX10_keptShowing 22 = .ok (.ireturn, 1) := by decide +kernel
theorem dX10_keptShowing_4 : decode cX10_keptShowing 4 = .ok (.iload_n 1, 1) := by decide +kernel
theorem dX10_keptShowing_5 : decode cX10_keptShowing 5 = .ok (.bipush (-5), 2) := by decide +kernel
theorem dX10_keptShowing_7 : decode cX10_keptShowing 7 = .ok (.if_icmp .ne 14, 3) := by decide +kernel
set_option maxHeartbeats 4000000 in
set_option maxRecDepth 100000 in
theorem s_X10_keptShowing {l : Launch} {G : Gc} (qx : Nat) (a1 : Int32) (qt : Nat) (qs : Nat) (qd : Nat) (qa : Nat) (qb : Nat) (qh : Nat) (qr : Nat) (qe : Nat) (qp : Nat) (qf : Nat) (qn : Nat) (qi : Nat) (qw : Nat) (qx_toldAny : Int32) (qx_lastFault : Int32) (qx_lastMoved : Int32) (qx_lastScratched : Int32) (qb_hour : Int32) (qb_heat : Int32) (qb_black : Int32) (qb_so : Int32) (qb_cracked : Int32) (qb_behind : Int32) (qb_allSighs : Int32) (qb_seed : Int32) (qb_pictures : Nat) (qb_shown : Nat) (qb_sighed : Nat) (qb_pictures_c : Nat → Int32) (qb_shown_c : Nat → Int32) (qb_sighed_c : Nat → Int32) (qh_kept : Nat) (qh_first : Int32) (qh_size : Int32) (qh_kept_c : Nat → Option Nat) (qk : Nat) (qk_hour : Int32) (qk_heat : Int32) (qk_black : Int32) (qk_so : Int32) (qk_cracked : Int32) (qk_behind : Int32) (qk_allSighs : Int32) (qk_seed : Int32) (qk_pictures : Nat) (qk_shown : Nat) (qk_sighed : Nat) (qk_pictures_c : Nat → Int32) (qk_shown_c : Nat → Int32) (qk_sighed_c : Nat → Int32) (k9 : Nat) (hi_qb_black : 0 ≤ qb_black.toInt ∧ qb_black.toInt ≤ 1) (hi_qh_first : 0 ≤ qh_first.toInt ∧ qh_first.toInt ≤ 7) (hi_qh_size : 0 ≤ qh_size.toInt ∧ qh_size.toInt ≤ 8) (hi_qk_black : 0 ≤ qk_black.toInt ∧ qk_black.toInt ≤ 1) (hr_0 : (qh_first.toInt + qh_size.toInt) % 8 = (k9 : Int)) (hr_1 : atS qh_kept_c k9 qk) : Ci l yX10_keptShowing cX10_keptShowing 2 (some .int) 3 0 0 G [.ref qx, .int a1] [(qx, .inr (9, [.ref qt, .ref qs, .ref qd, .ref qa, .ref qb, .ref qh, .ref qr, .ref qe, .ref qp, .ref qf, .ref qn, .ref qi, .ref qw, .int qx_toldAny, .int qx_lastFault, .int qx_lastMoved, .int qx_lastScratched])), (qb, .inr (7, [.int qb_hour, .int qb_heat, .int qb_black, .int qb_so, .int qb_cracked, .int qb_behind, .int qb_allSighs, .int qb_seed, .ref qb_pictures, .ref qb_shown, .ref qb_sighed])), (qb_pictures, eI G 6 qb_pictures_c), (qb_shown, eI G 6 qb_shown_c), (qb_sighed, eI G 8 qb_sighed_c), (qh, .inr (2, [.ref qh_kept, .int qh_first, .int qh_size])), (qh_kept, eSt G 8 qh_kept_c), (qk, .inr (7, [.int qk_hour, .int qk_heat, .int qk_black, .int qk_so, .int qk_cracked, .int qk_behind, .int qk_allSighs, .int qk_seed, .ref qk_pictures, .ref qk_shown, .ref qk_sighed])), (qk_pictures, eI G 6 qk_pictures_c), (qk_shown, eI G 6 qk_shown_c), (qk_sighed, eI G 8 qk_sighed_c)] (fun (r9 : Int32) (u9 : va_W) => ∃ (x0_qh_first : Int32) (x1_qh_size : Int32) (x2_qk_hour : Int32) (x3_qk_heat : Int32) (x4_qk_black : Int32) (x5_qk_so : Int32) (x6_qk_cracked : Int32) (x7_qk_behind : Int32) (x8_qk_allSighs : Int32) (x9_qk_pictures_c : Nat → Int32) (x10_qk_shown_c : Nat → Int32) (x11_qk_sighed_c : Nat → Int32), r9 = a1 ∧ u9 = [(qx, .inr (9, [.ref qt, .ref qs, .ref qd, .ref qa, .ref qb, .ref qh, .ref qr, .ref qe, .ref qp, .ref qf, .ref qn, .ref qi, .ref qw, .int qx_toldAny, .int qx_lastFault, .int qx_lastMoved, .int qx_lastScratched])), (qb, .inr (7, [.int qb_hour, .int qb_heat, .int qb_black, .int qb_so, .int qb_cracked, .int qb_behind, .int qb_allSighs, .int qb_seed, .ref qb_pictures, .ref qb_shown, .ref qb_sighed])), (qb_pictures, eI G 6 qb_pictures_c), (qb_shown, eI G 6 qb_shown_c), (qb_sighed, eI G 8 qb_sighed_c), (qh, .inr (2, [.ref qh_kept, .int x0_qh_first, .int x1_qh_size])), (qh_kept, eSt G 8 qh_kept_c), (qk, .inr (7, [.int x2_qk_hour, .int x3_qk_heat, .int x4_qk_black, .int x5_qk_so, .int x6_qk_cracked, .int x7_qk_behind, .int x8_qk_allSighs, .int qk_seed, .ref qk_pictures, .ref qk_shown, .ref qk_sighed])), (qk_pictures, eI G 6 x9_qk_pictures_c), (qk_shown, eI G 6 x10_qk_shown_c), (qk_sighed, eI G 8 x11_qk_sighed_c)] ∧ (0 ≤ x0_qh_first.toInt ∧ x0_qh_first.toInt ≤ 7) ∧ (0 ≤ x1_qh_size.toInt ∧ x1_qh_size.toInt ≤ 8) ∧ (0 ≤ x4_qk_black.toInt ∧ x4_qk_black.toInt ≤ 1)) := by
  refine Ci.ofQ (by decide) (Nat.le_of_ble_eq_true rfl) ?_
  intro p e s m below meth c ls A args Q hQ B hw hl
  have C : CallFix p m c cX10_keptShowing 2 s args gw "LanternState" := B.1
  have hl : lv_has ls 2 [(0, .ref qx), (1, .int a1)] := hl
  refine lv_iload_n C.1 C.2.1 dX10_keptShowing_0 rfl (lv_at hl 1 rfl) ?_
  refine lv_if_ge (tgt := 10) C.1 C.2.1 dX10_keptShowing_1 (by decide) (fun c1 => ?_) (fun c1 => ?_)
  · skip
    have c1 : 0 ≤ a1.toInt := i_leT (X := 0) (Y := a1.toInt) rfl rfl c1
    have bc1_a1 := i_bd a1
    refine lv_aload_n C.1 C.2.1 dX10_keptShowing_10 rfl (lv_at hl 0 rfl) ?_
    refine x_get C hw iwX10 9 rfl 0 rfl 5 (by decide) kw451 rfl dX10_keptShowing_11 ?_
    refine lv_aload_n C.1 C.2.1 dX10_keptShowing_14 rfl (lv_at hl 0 rfl) ?_
    refine x_get C hw iwX10 9 rfl 0 rfl 4 (by decide) kw450 rfl dX10_keptShowing_15 ?_
    refine x_callvV (As := [.ref qb]) (rest := []) (wr := [(qx, .inr (9, [.ref qt, .ref qs, .ref qd, .ref qa, .ref qb, .ref qh, .ref qr, .ref qe, .ref qp, .ref qf, .ref qn, .ref qi, .ref qw, .int qx_toldAny, .int qx_lastFault, .int qx_lastMoved, .int qx_lastScratched]))]) C hw (s_X2_keep qh qb qh_kept qh_first qh_size qh_kept_c qk qk_hour qk_heat qk_black qk_so qk_cracked qk_behind qk_allSighs qk_seed qk_pictures qk_shown qk_sighed qk_pictures_c qk_shown_c qk_sighed_c qb_hour qb_heat qb_black qb_so qb_cracked qb_behind qb_allSighs qb_seed qb_pictures qb_shown qb_sighed qb_pictures_c qb_shown_c qb_sighed_c k9 (by omega) (by omega) (by omega) (by omega) hr_1) mwX2_keep kw740 [5, 6, 7, 8, 9, 10, 1, 2, 3, 4] [0] rfl rfl rfl rfl (by decide) 0 rfl rfl rfl rfl hl.1 rfl (Nat.le_of_ble_eq_true rfl) ⟨(Nat.le_of_ble_eq_true rfl), (Nat.le_of_ble_eq_true rfl)⟩ ⟨(Nat.le_of_ble_eq_true rfl), (Nat.le_of_ble_eq_true rfl)⟩ dX10_keptShowing_18 (fun  u9 H locs hp9 hw => ?_)
    obtain ⟨x2, x3, x4, x5, x6, rfl, hf7, hf8⟩ := hp9
    have hw : Wd G s A [(qx, .inr (9, [.ref qt, .ref qs, .ref qd, .ref qa, .ref qb, .ref qh, .ref qr, .ref qe, .ref qp, .ref qf, .ref qn, .ref qi, .ref qw, .int qx_toldAny, .int qx_lastFault, .int qx_lastMoved, .int qx_lastScratched])), (qh, .inr (2, [.ref qh_kept, .int x2, .int x3])), (qh_kept, eSt G 8 qh_kept_c), (qk, .inr (7, [.int qb_hour, .int qb_heat, .int qb_black, .int qb_so, .int qb_cracked, .int qb_behind, .int qb_allSighs, .int qk_seed, .ref qk_pictures, .ref qk_shown, .ref qk_sighed])), (qk_pictures, eI G 6 x4), (qk_shown, eI G 6 x5), (qk_sighed, eI G 8 x6), (qb, .inr (7, [.int qb_hour, .int qb_heat, .int qb_black, .int qb_so, .int qb_cracked, .int qb_behind, .int qb_allSighs, .int qb_seed, .ref qb_pictures, .ref qb_shown, .ref qb_sighed])), (qb_pictures, eI G 6 qb_pictures_c), (qb_shown, eI G 6 qb_shown_c), (qb_sighed, eI G 8 qb_sighed_c)] H _ := hw
    refine lv_iload_n C.1 C.2.1 dX10_keptShowing_21 rfl (lv_at hl 1 rfl) ?_
    have hw := hw.sub (w' := [(qx, .inr (9, [.ref qt, .ref qs, .ref qd, .ref qa, .ref qb, .ref qh, .ref qr, .ref qe, .ref qp, .ref qf, .ref qn, .ref qi, .ref qw, .int qx_toldAny, .int qx_lastFault, .int qx_lastMoved, .int qx_lastScratched])), (qb, .inr (7, [.int qb_hour, .int qb_heat, .int qb_black, .int qb_so, .int qb_cracked, .int qb_behind, .int qb_allSighs, .int qb_seed, .ref qb_pictures, .ref qb_shown, .ref qb_sighed])), (qb_pictures, eI G 6 qb_pictures_c), (qb_shown, eI G 6 qb_shown_c), (qb_sighed, eI G 8 qb_sighed_c), (qh, .inr (2, [.ref qh_kept, .int x2, .int x3])), (qh_kept, eSt G 8 qh_kept_c), (qk, .inr (7, [.int qb_hour, .int qb_heat, .int qb_black, .int qb_so, .int qb_cracked, .int qb_behind, .int qb_allSighs, .int qk_seed, .ref qk_pictures, .ref qk_shown, .ref qk_sighed])), (qk_pictures, eI G 6 x4), (qk_shown, eI G 6 x5), (qk_sighed, eI G 8 x6)]) [0, 7, 8, 9, 10, 1, 2, 3, 4, 5, 6] rfl rfl
    exact x_retiQ hQ B hw ⟨x2, x3, qb_hour, qb_heat, qb_black, qb_so, qb_cracked, qb_behind, qb_allSighs, x4, x5, x6, rfl, rfl, (by omega), (by omega), (by omega)⟩ (Nat.le_of_ble_eq_true rfl) (Nat.le_of_ble_eq_true rfl) dX10_keptShowing_22
  · skip
    have c1 : a1.toInt < 0 := i_leF (X := 0) (Y := a1.toInt) rfl rfl c1
    have bc1_a1 := i_bd a1
    refine lv_iload_n C.1 C.2.1 dX10_keptShowing_4 rfl (lv_at hl 1 rfl) ?_
    refine lv_bipush (v := (-5)) C.1 C.2.1 dX10_keptShowing_5 (by decide) ?_
    refine lv_icmp_ne (tgt := 21) C.1 C.2.1 dX10_keptShowing_7 (by decide) (fun c9 => ?_) (fun c9 => ?_)
    · skip
      have c9 : a1.toInt ≠ (-5) := i_eqF (X := a1.toInt) (Y := (-5)) rfl rfl c9
      have bc9_a1 := i_bd a1
      refine lv_iload_n C.1 C.2.1 dX10_keptShowing_21 rfl (lv_at hl 1 rfl) ?_
      exact x_retiQ hQ B hw ⟨qh_first, qh_size, qk_hour, qk_heat, qk_black, qk_so, qk_cracked, qk_behind, qk_allSighs, qk_pictures_c, qk_shown_c, qk_sighed_c, rfl, rfl, (by omega), (by omega), (by omega)⟩ (Nat.le_of_ble_eq_true rfl) (Nat.le_of_ble_eq_true rfl) dX10_keptShowing_22
    · skip
      have c9 : a1.toInt = (-5) := i_eqT (X := a1.toInt) (Y := (-5)) rfl rfl c9
      have bc9_a1 := i_bd a1
      refine lv_aload_n C.1 C.2.1 dX10_keptShowing_10 rfl (lv_at hl 0 rfl) ?_
      refine x_get C hw iwX10 9 rfl 0 rfl 5 (by decide) kw451 rfl dX10_keptShowing_11 ?_
      refine lv_aload_n C.1 C.2.1 dX10_keptShowing_14 rfl (lv_at hl 0 rfl) ?_
      refine x_get C hw iwX10 9 rfl 0 rfl 4 (by decide) kw450 rfl dX10_keptShowing_15 ?_
      refine x_callvV (As := [.ref qb]) (rest := []) (wr := [(qx, .inr (9, [.ref qt, .ref qs, .ref qd, .ref qa, .ref qb, .ref qh, .ref qr, .ref qe, .ref qp, .ref qf, .ref qn, .ref qi, .ref qw, .int qx_toldAny, .int qx_lastFault, .int qx_lastMoved, .int qx_lastScratched]))]) C hw (s_X2_keep qh qb qh_kept qh_first qh_size qh_kept_c qk qk_hour qk_heat qk_black qk_so qk_cracked qk_behind qk_allSighs qk_seed qk_pictures qk_shown qk_sighed qk_pictures_c qk_shown_c qk_sighed_c qb_hour qb_heat qb_black qb_so qb_cracked qb_behind qb_allSighs qb_seed qb_pictures qb_shown qb_sighed qb_pictures_c qb_shown_c qb_sighed_c k9 (by omega) (by omega) (by omega) (by omega) hr_1) mwX2_keep kw740 [5, 6, 7, 8, 9, 10, 1, 2, 3, 4] [0] rfl rfl rfl rfl (by decide) 0 rfl rfl rfl rfl hl.1 rfl (Nat.le_of_ble_eq_true rfl) ⟨(Nat.le_of_ble_eq_true rfl), (Nat.le_of_ble_eq_true rfl)⟩ ⟨(Nat.le_of_ble_eq_true rfl), (Nat.le_of_ble_eq_true rfl)⟩ dX10_keptShowing_18 (fun  u9 H locs hp9 hw => ?_)
      obtain ⟨x10, x11, x12, x13, x14, rfl, hf15, hf16⟩ := hp9
      have hw : Wd G s A [(qx, .inr (9, [.ref qt, .ref qs, .ref qd, .ref qa, .ref qb, .ref qh, .ref qr, .ref qe, .ref qp, .ref qf, .ref qn, .ref qi, .ref qw, .int qx_toldAny, .int qx_lastFault, .int qx_lastMoved, .int qx_lastScratched])), (qh, .inr (2, [.ref qh_kept, .int x10, .int x11])), (qh_kept, eSt G 8 qh_kept_c), (qk, .inr (7, [.int qb_hour, .int qb_heat, .int qb_black, .int qb_so, .int qb_cracked, .int qb_behind, .int qb_allSighs, .int qk_seed, .ref qk_pictures, .ref qk_shown, .ref qk_sighed])), (qk_pictures, eI G 6 x12), (qk_shown, eI G 6 x13), (qk_sighed, eI G 8 x14), (qb, .inr (7, [.int qb_hour, .int qb_heat, .int qb_black, .int qb_so, .int qb_cracked, .int qb_behind, .int qb_allSighs, .int qb_seed, .ref qb_pictures, .ref qb_shown, .ref qb_sighed])), (qb_pictures, eI G 6 qb_pictures_c), (qb_shown, eI G 6 qb_shown_c), (qb_sighed, eI G 8 qb_sighed_c)] H _ := hw
      refine lv_iload_n C.1 C.2.1 dX10_keptShowing_21 rfl (lv_at hl 1 rfl) ?_
      have hw := hw.sub (w' := [(qx, .inr (9, [.ref qt, .ref qs, .ref qd, .ref qa, .ref qb, .ref qh, .ref qr, .ref qe, .ref qp, .ref qf, .ref qn, .ref qi, .ref qw, .int qx_toldAny, .int qx_lastFault, .int qx_lastMoved, .int qx_lastScratched])), (qb, .inr (7, [.int qb_hour, .int qb_heat, .int qb_black, .int qb_so, .int qb_cracked, .int qb_behind, .int qb_allSighs, .int qb_seed, .ref qb_pictures, .ref qb_shown, .ref qb_sighed])), (qb_pictures, eI G 6 qb_pictures_c), (qb_shown, eI G 6 qb_shown_c), (qb_sighed, eI G 8 qb_sighed_c), (qh, .inr (2, [.ref qh_kept, .int x10, .int x11])), (qh_kept, eSt G 8 qh_kept_c), (qk, .inr (7, [.int qb_hour, .int qb_heat, .int qb_black, .int qb_so, .int qb_cracked, .int qb_behind, .int qb_allSighs, .int qk_seed, .ref qk_pictures, .ref qk_shown, .ref qk_sighed])), (qk_pictures, eI G 6 x12), (qk_shown, eI G 6 x13), (qk_sighed, eI G 8 x14)]) [0, 7, 8, 9, 10, 1, 2, 3, 4, 5, 6] rfl rfl
      exact x_retiQ hQ B hw ⟨x10, x11, qb_hour, qb_heat, qb_black, qb_so, qb_cracked, qb_behind, qb_allSighs, x12, x13, x14, rfl, rfl, (by omega), (by omega), (by omega)⟩ (Nat.le_of_ble_eq_true rfl) (Nat.le_of_ble_eq_true rfl) dX10_keptShowing_22
theorem dX10_closeText_0 : decode cX10_closeText 0 = .ok (.aload_n 0, 1) := by decide +kernel
theorem dX10_closeText_1 : decode cX10_closeText 1 = .ok (.aload_n 0, 1) := by decide +kernel
theorem dX10_closeText_2 : decode cX10_closeText 2 = .ok (.getfield 10, 3) := by decide +kernel
theorem dX10_closeText_5 : decode cX10_closeText 5 = .ok (.getfield 354, 3) := by decide +kernel
theorem dX10_closeText_8 : decode cX10_closeText 8 = .ok (.putfield 129, 3) := by decide +kernel
theorem dX10_closeText_11 : decode cX10_closeText 11 = .ok (.aload_n 0, 1) := by decide +kernel
theorem dX10_closeText_12 : decode cX10_closeText 12 = .ok (.getfield 10, 3) := by decide +kernel
theorem dX10_closeText_15 : decode cX10_closeText 15 = .ok (.iconst 0, 1) := by decide +kernel
theorem dX10_closeText_16 : decode cX10_closeText 16 = .ok (.putfield 92, 3) := by decide +kernel
theorem dX10_closeText_19 : decode cX10_closeText 19 = .ok (.return_, 1) := by decide +kernel
set_option maxHeartbeats 4000000 in
set_option maxRecDepth 100000 in
theorem s_X10_closeText {l : Launch} {G : Gc} (qx : Nat) (qt : Nat) (qs : Nat) (qd : Nat) (qa : Nat) (qb : Nat) (qh : Nat) (qr : Nat) (qe : Nat) (qp : Nat) (qf : Nat) (qn : Nat) (qi : Nat) (qw : Nat) (qx_toldAny : Int32) (qx_lastFault : Int32) (qx_lastMoved : Int32) (qx_lastScratched : Int32) (qt_keyCodes : Nat) (qt_bytes : Nat) (qt_size : Int32) (qt_most : Int32) (qt_from : Int32) (qt_kind : Int32) (qt_place : Int32) (qt_value : Int32) (qt_code : Int64) (qt_key : Int32) (qt_fault : Int32) (qt_faultPlace : Int32)  : Cv l yX10_closeText cX10_closeText 1 0 0 0 G [.ref qx] [(qx, .inr (9, [.ref qt, .ref qs, .ref qd, .ref qa, .ref qb, .ref qh, .ref qr, .ref qe, .ref qp, .ref qf, .ref qn, .ref qi, .ref qw, .int qx_toldAny, .int qx_lastFault, .int qx_lastMoved, .int qx_lastScratched])), (qt, .inr (8, [.ref qt_keyCodes, .ref qt_bytes, .int qt_size, .int qt_most, .int qt_from, .int qt_kind, .int qt_place, .int qt_value, .long qt_code, .int qt_key, .int qt_fault, .int qt_faultPlace]))] (fun (u9 : va_W) => u9 = [(qx, .inr (9, [.ref qt, .ref qs, .ref qd, .ref qa, .ref qb, .ref qh, .ref qr, .ref qe, .ref qp, .ref qf, .ref qn, .ref qi, .ref qw, .int qx_toldAny, .int qt_fault, .int qx_lastMoved, .int qx_lastScratched])), (qt, .inr (8, [.ref qt_keyCodes, .ref qt_bytes, .int 0, .int qt_most, .int qt_from, .int qt_kind, .int qt_place, .int qt_value, .long qt_code, .int qt_key, .int qt_fault, .int qt_faultPlace]))]) := by
  refine Cv.ofQ (by decide) (Nat.le_of_ble_eq_true rfl) ?_
  intro p e s m below meth c ls A args Q hQ B hw hl
  have C : CallFix p m c cX10_closeText 1 s args gw "LanternState" := B.1
  have hl : lv_has ls 1 [(0, .ref qx)] := hl
  refine lv_aload_n C.1 C.2.1 dX10_closeText_0 rfl (lv_at hl 0 rfl) ?_
  refine lv_aload_n C.1 C.2.1 dX10_closeText_1 rfl (lv_at hl 0 rfl) ?_
  refine x_get C hw iwX10 9 rfl 0 rfl 0 (by decide) kw446 rfl dX10_closeText_2 ?_
  refine x_get C hw iwX9 8 rfl 1 rfl 10 (by decide) kw111 rfl dX10_closeText_5 ?_
  refine x_put (w' := [(qx, .inr (9, [.ref qt, .ref qs, .ref qd, .ref qa, .ref qb, .ref qh, .ref qr, .ref qe, .ref qp, .ref qf, .ref qn, .ref qi, .ref qw, .int qx_toldAny, .int qt_fault, .int qx_lastMoved, .int qx_lastScratched])), (qt, .inr (8, [.ref qt_keyCodes, .ref qt_bytes, .int qt_size, .int qt_most, .int qt_from, .int qt_kind, .int qt_place, .int qt_value, .long qt_code, .int qt_key, .int qt_fault, .int qt_faultPlace]))]) C hw iwX10 tyX10_ok nmX10 9 rfl 0 rfl 14 (by decide) kw460 rfl rfl rfl (Nat.le_of_ble_eq_true rfl) rfl dX10_closeText_8 (fun H locs hw => ?_)
  refine lv_aload_n C.1 C.2.1 dX10_closeText_11 rfl (lv_at hl 0 rfl) ?_
  refine x_get C hw iwX10 9 rfl 0 rfl 0 (by decide) kw446 rfl dX10_closeText_12 ?_
  refine lv_iconst (v := 0) C.1 C.2.1 dX10_closeText_15 (by decide) ?_
  refine x_put (w' := [(qx, .inr (9, [.ref qt, .ref qs, .ref qd, .ref qa, .ref qb, .ref qh, .ref qr, .ref qe, .ref qp, .ref qf, .ref qn, .ref qi, .ref qw, .int qx_toldAny, .int qt_fault, .int qx_lastMoved, .int qx_lastScratched])), (qt, .inr (8, [.ref qt_keyCodes, .ref qt_bytes, .int 0, .int qt_most, .int qt_from, .int qt_kind, .int qt_place, .int qt_value, .long qt_code, .int qt_key, .int qt_fault, .int qt_faultPlace]))]) C hw iwX9 tyX9_ok nmX9 8 rfl 1 rfl 2 (by decide) kw90 rfl rfl rfl (Nat.le_of_ble_eq_true rfl) rfl dX10_closeText_16 (fun H locs hw => ?_)
  exact x_retvQ hQ B hw rfl (Nat.le_of_ble_eq_true rfl) (Nat.le_of_ble_eq_true rfl) dX10_closeText_19
set_option maxHeartbeats 4000000 in
set_option maxRecDepth 100000 in
theorem s_X9_put4 {l : Launch} {G : Gc} (qt : Nat) (a1 : Int32) (qt_keyCodes : Nat) (qt_bytes : Nat) (qt_size : Int32) (qt_most : Int32) (qt_from : Int32) (qt_kind : Int32) (qt_place : Int32) (qt_value : Int32) (qt_code : Int64) (qt_key : Int32) (qt_fault : Int32) (qt_faultPlace : Int32) (qt_bytes_c : Nat → Int32) (hi_qt_size : 0 ≤ qt_size.toInt ∧ qt_size.toInt ≤ 940) (hr_0 : qt_size.toInt ≤ 936) : Cv l yX9_put cX9_put 3 0 0 0 G [.ref qt, .int a1] [(qt, .inr (8, [.ref qt_keyCodes, .ref qt_bytes, .int qt_size, .int qt_most, .int qt_from, .int qt_kind, .int qt_place, .int qt_value, .long qt_code, .int qt_key, .int qt_fault, .int qt_faultPlace])), (qt_bytes, eB G 940 qt_bytes_c)] (fun (u9 : va_W) => ∃ (x0_qt_size : Int32) (x1_qt_bytes_c : Nat → Int32), u9 = [(qt, .inr (8, [.ref qt_keyCodes, .ref qt_bytes, .int x0_qt_size, .int qt_most, .int qt_from, .int qt_kind, .int qt_place, .int qt_value, .long qt_code, .int qt_key, .int qt_fault, .int qt_faultPlace])), (qt_bytes, eB G 940 x1_qt_bytes_c)] ∧ (0 ≤ x0_qt_size.toInt ∧ x0_qt_size.toInt ≤ 940) ∧ (x0_qt_size.toInt = qt_size.toInt + 4)) := by
  refine Cv.ofQ (by decide) (Nat.le_of_ble_eq_true rfl) ?_
  intro p e s m below meth c ls A args Q hQ B hw hl
  have C : CallFix p m c cX9_put 3 s args gw "LanternState$Tape" := B.1
  have hl : lv_has ls 3 [(0, .ref qt), (1, .int a1)] := hl
  refine lv_bipush (v := 24) C.1 C.2.1 dX9_put_0 (by decide) ?_
  refine lv_istore_n (lv' := [(2, .int 24), (0, .ref qt), (1, .int a1)]) C.1 C.2.1 dX9_put_2 rfl hl (by decide) rfl (fun ls hl => ?_)
  have loopJ73 : ∀ (n9 : Nat) (j70 : Int32) (j71 : Int32) (j72 : Nat → Int32), (j70.toInt + 2147483648).toNat < n9 → ((-8) ≤ j70.toInt ∧ j70.toInt ≤ 24) → (0 ≤ j71.toInt ∧ j71.toInt ≤ 940) → (8 * j71.toInt = 8 * qt_size.toInt + 24 - j70.toInt) → ∀ (H : Heap) (locs : List Loc) (ls : Array Slot), Wd G s A [(qt, .inr (8, [.ref qt_keyCodes, .ref qt_bytes, .int j71, .int qt_most, .int qt_from, .int qt_kind, .int qt_place, .int qt_value, .long qt_code, .int qt_key, .int qt_fault, .int qt_faultPlace])), (qt_bytes, eB G 940 j72)] H locs → lv_has ls 3 [(2, .int j70), (0, .ref qt), (1, .int a1)] → W p l e (rmD 0 0 0) s m args below meth c H locs 0 0 Q (F0 m 3 ls []) := by
    intro n9
    induction n9 with
    | zero => intro j70 j71 j72 h9; exact absurd h9 (Nat.not_lt_zero _)
    | succ n9 ihJ73 =>
      intro j70 j71 j72 h9J73 hJ73_0 hJ73_1 hJ73_2 H locs ls hw hl
      have hbj70 := i_bd j70
      refine lv_iload_n C.1 C.2.1 dX9_put_3 rfl (lv_at hl 0 rfl) ?_
      refine lv_if_lt (tgt := 46) C.1 C.2.1 dX9_put_4 (by decide) (fun c84 => ?_) (fun c84 => ?_)
      · skip
        have c84 : j70.toInt < 0 := i_ltT (X := j70.toInt) (Y := 0) rfl rfl c84
        exact x_retvQ hQ B hw ⟨j71, j72, rfl, (by omega), (by omega)⟩ (Nat.le_of_ble_eq_true rfl) (Nat.le_of_ble_eq_true rfl) dX9_put_46
      · skip
        have c84 : 0 ≤ j70.toInt := i_ltF (X := j70.toInt) (Y := 0) rfl rfl c84
        refine lv_aload_n C.1 C.2.1 dX9_put_7 rfl (lv_at hl 1 rfl) ?_
        refine x_get C hw iwX9 8 rfl 0 rfl 2 (by decide) kw91 rfl dX9_put_8 ?_
        refine lv_sipush (v := 940) C.1 C.2.1 dX9_put_11 (by decide) ?_
        have J92 : ∀ (j90 : Int32) (j91 : Nat → Int32), (1 ≤ j90.toInt ∧ j90.toInt ≤ 940) → (8 * j90.toInt = 8 * qt_size.toInt + 32 - j70.toInt) → ∀ (H : Heap) (locs : List Loc) (ls : Array Slot), Wd G s A [(qt, .inr (8, [.ref qt_keyCodes, .ref qt_bytes, .int j90, .int qt_most, .int qt_from, .int qt_kind, .int qt_place, .int qt_value, .long qt_code, .int qt_key, .int qt_fault, .int qt_faultPlace])), (qt_bytes, eB G 940 j91)] H locs → lv_has ls 3 [(2, .int j70), (0, .ref qt), (1, .int a1)] → W p l e (rmD 0 0 0) s m args below meth c H locs 0 0 Q (F0 m 40 ls []) := by
          intro j90 j91 hJ92_0 hJ92_1 H locs ls hw hl
          obtain ⟨v94, ev94⟩ : ∃ z : Int32, j70 + (-8) = z := ⟨_, rfl⟩
          have hv94 : v94.toInt = j70.toInt + (-8) := by rw [← ev94]; exact i_add rfl rfl (by omega) (by omega)
          refine lv_iinc (v := v94) (lv' := [(2, .int v94), (0, .ref qt), (1, .int a1)]) C.1 C.2.1 dX9_put_40 hl (k := 0) rfl ev94 (by decide) rfl (fun ls hl => ?_)
          refine lv_goto (tgt := 3) C.1 C.2.1 dX9_put_43 (by decide) ?_
          exact ihJ73 v94 j90 j91 (by omega) (by omega) (by omega) (by omega) _ _ _ hw (lv_sub hl [0, 1, 2] rfl)
        refine lv_icmp_ge (tgt := 40) C.1 C.2.1 dX9_put_14 (by decide) (fun c85 => ?_) (fun c85 => ?_)
        · skip
          have c85 : 940 ≤ j71.toInt := i_leT (X := 940) (Y := j71.toInt) rfl rfl c85
          exact J92 j71 j72  (by omega) (by omega) _ _ _ hw (lv_sub hl [0, 1, 2] rfl)
        · skip
          have c85 : j71.toInt < 940 := i_leF (X := 940) (Y := j71.toInt) rfl rfl c85
          refine lv_aload_n C.1 C.2.1 dX9_put_17 rfl (lv_at hl 1 rfl) ?_
          refine x_get C hw iwX9 8 rfl 0 rfl 1 (by decide) kw89 rfl dX9_put_18 ?_
          refine lv_aload_n C.1 C.2.1 dX9_put_21 rfl (lv_at hl 1 rfl) ?_
          refine x_get C hw iwX9 8 rfl 0 rfl 2 (by decide) kw91 rfl dX9_put_22 ?_
          refine lv_iload_n C.1 C.2.1 dX9_put_25 rfl (lv_at hl 2 rfl) ?_
          refine lv_iload_n C.1 C.2.1 dX9_put_26 rfl (lv_at hl 0 rfl) ?_
          refine lv_iushr (v := ((a1.toUInt32 >>> (j70.toUInt32 &&& Int32.toUInt32 31)).toInt32)) C.1 C.2.1 dX9_put_27 rfl (x_gen (fun v95 => ?_))
          refine lv_i2b (v := v95.toInt8.toInt32) C.1 C.2.1 dX9_put_28 rfl (x_gen (fun v96 => ?_))
          obtain ⟨g97, eg97⟩ : ∃ z, upd j72 (j71.toNatClampNeg) (vp_nar .byte v96) = z := ⟨_, rfl⟩
          refine x_bast (f' := g97) (w' := [(qt, .inr (8, [.ref qt_keyCodes, .ref qt_bytes, .int j71, .int qt_most, .int qt_from, .int qt_kind, .int qt_place, .int qt_value, .long qt_code, .int qt_key, .int qt_fault, .int qt_faultPlace])), (qt_bytes, eB G 940 g97)]) C hw 1 rfl (i_in (by omega) (by omega)) eg97 rfl dX9_put_29 (fun H locs hw => ?_)
          refine lv_aload_n C.1 C.2.1 dX9_put_30 rfl (lv_at hl 1 rfl) ?_
          refine lv_dup C.1 C.2.1 dX9_put_31 rfl ?_
          refine x_get C hw iwX9 8 rfl 0 rfl 2 (by decide) kw91 rfl dX9_put_32 ?_
          refine lv_iconst (v := 1) C.1 C.2.1 dX9_put_35 (by decide) ?_
          refine lv_iadd C.1 C.2.1 dX9_put_36 (x_genP (fun z : Int32 => z.toInt = j71.toInt + 1) (i_add (X := j71.toInt) (Y := 1) rfl rfl (by omega) (by omega)) (fun v98 hv98 => ?_))
          refine x_put (w' := [(qt, .inr (8, [.ref qt_keyCodes, .ref qt_bytes, .int v98, .int qt_most, .int qt_from, .int qt_kind, .int qt_place, .int qt_value, .long qt_code, .int qt_key, .int qt_fault, .int qt_faultPlace])), (qt_bytes, eB G 940 g97)]) C hw iwX9 tyX9_ok nmX9 8 rfl 0 rfl 2 (by decide) kw91 rfl rfl rfl (Nat.le_of_ble_eq_true rfl) rfl dX9_put_37 (fun H locs hw => ?_)
          exact J92 v98 g97  (by omega) (by omega) _ _ _ hw (lv_sub hl [0, 1, 2] rfl)
  exact loopJ73 _ 24 qt_size qt_bytes_c (Nat.lt_succ_self _) (by decide) (by omega) (by have e0 : (24 : Int32).toInt = 24 := rfl; omega) _ _ _ hw (lv_sub hl [0, 1, 2] rfl)
theorem dX10_feed_0 : decode cX10_feed 0 = .ok (.aload_n 0, 1) := by decide +kernel
theorem dX10_feed_1 : decode cX10_feed 1 = .ok (.getfield 10, 3) := by decide +kernel
theorem dX10_feed_4 : decode cX10_feed 4 = .ok (.getfield 92, 3) := by decide +kernel
theorem dX10_feed_7 : decode cX10_feed 7 = .ok (.bipush 20, 2) := by decide +kernel
theorem dX10_feed_9 : decode cX10_feed 9 = .ok (.iadd, 1) := by decide +kernel
theorem dX10_feed_10 : decode cX10_feed 10 = .ok (.sipush 940, 3) := by decide +kernel
theorem dX10_feed_13 : decode cX10_feed 13 = .ok (.if_icmp .le 5, 3) := by decide +kernel
theorem dX10_feed_18 : decode cX10_feed 18 = .ok (.aload_n 0, 1) := by decide +kernel
theorem dX10_feed_19 : decode cX10_feed 19 = .ok (.getfield 10, 3) := by decide +kernel
theorem dX10_feed_22 : decode cX10_feed 22 = .ok (.iload_n 1, 1) := by decide +kernel
theorem dX10_feed_23 : decode cX10_feed 23 = .ok (.invokevirtual 95, 3) := by decide +kernel
theorem mwX9_put : MwV yX9_put cX9_put 3 none 1 := ⟨⟨kw505, kw2, by decide +kernel⟩, kw503, kw504⟩
theorem dX10_feed_26 : decode cX10_feed 26 = .ok (.aload_n 0, 1) := by decide +kernel
theorem dX10_feed_27 : decode cX10_feed 27 = .ok (.getfield 10, 3) := by decide +kernel
theorem dX10_feed_30 : decode cX10_feed 30 = .ok (.iload_n 2, 1) := by decide +kernel
theorem dX10_feed_31 : decode cX10_feed 31 = .ok (.invokevirtual 95, 3) := by decide +kernel
theorem dX10_feed_34 : decode cX10_feed 34 = .ok (.aload_n 0, 1) := by decide +kernel
theorem dX10_feed_35 : decode cX10_feed 35 = .ok (.getfield 10, 3) := by decide +kernel
theorem dX10_feed_38 : decode cX10_feed 38 = .ok (.iload_n 3, 1) := by decide +kernel
theorem dX10_feed_39 : decode cX10_feed 39 = .ok (.invokevirtual 95, 3) := by decide +kernel
theorem dX10_feed_42 : decode cX10_feed 42 = .ok (.aload_n 0, 1) := by decide +kernel
theorem dX10_feed_43 : decode cX10_feed 43 = .ok (.getfield 10, 3) := by decide +kernel
theorem dX10_feed_46 : decode cX10_feed 46 = .ok (.iload 4, 2) := by decide +kernel
theorem dX10_feed_48 : decode cX10_feed 48 = .ok (.invokevirtual 95, 3) := by decide +kernel
theorem dX10_feed_51 : decode cX10_feed 51 = .ok (.aload_n 0, 1) := by decide +kernel
theorem dX10_feed_52 : decode cX10_feed 52 = .ok (.getfield 10, 3) := by decide +kernel
theorem dX10_feed_55 : decode cX10_feed 55 = .ok (.iload 5, 2) := by decide +kernel
theorem dX10_feed_57 : decode cX10_feed 57 = .ok (.invokevirtual 95, 3) := by decide +kernel
theorem dX10_feed_60 : decode cX10_feed 60 = .ok (.aload_n 0, 1) := by decide +kernel
theorem dX10_feed_61 : decode cX10_feed 61 = .ok (.getfield 10, 3) := by decide +kernel
theorem dX10_feed_64 : decode cX10_feed 64 = .ok (.getfield 92, 3) := by decide +kernel
theorem dX10_feed_67 : decode cX10_feed 67 = .ok (.ireturn, 1) := by decide +kernel
theorem dX10_feed_16 : decode cX10_feed 16 = .ok (.iconst (-1), 1) := by decide +kernel
theorem dX10_feed_17 : decode cX10_feed 17 = .ok (.ireturn, 1) := by decide +kernel
set_option maxHeartbeats 4000000 in
set_option maxRecDepth 100000 in
theorem s_X10_feed {l : Launch} {G : Gc} (qx : Nat) (a1 : Int32) (a2 : Int32) (a3 : Int32) (a4 : Int32) (a5 : Int32) (qt : Nat) (qs : Nat) (qd : Nat) (qa : Nat) (qb : Nat) (qh : Nat) (qr : Nat) (qe : Nat) (qp : Nat) (qf : Nat) (qn : Nat) (qi : Nat) (qw : Nat) (qx_toldAny : Int32) (qx_lastFault : Int32) (qx_lastMoved : Int32) (qx_lastScratched : Int32) (qt_keyCodes : Nat) (qt_bytes : Nat) (qt_size : Int32) (qt_most : Int32) (qt_from : Int32) (qt_kind : Int32) (qt_place : Int32) (qt_value : Int32) (qt_code : Int64) (qt_key : Int32) (qt_fault : Int32) (qt_faultPlace : Int32) (qt_bytes_c : Nat → Int32) (hi_qt_size : 0 ≤ qt_size.toInt ∧ qt_size.toInt ≤ 940) : Ci l yX10_feed cX10_feed 6 (some .int) 1 0 0 G [.ref qx, .int a1, .int a2, .int a3, .int a4, .int a5] [(qx, .inr (9, [.ref qt, .ref qs, .ref qd, .ref qa, .ref qb, .ref qh, .ref qr, .ref qe, .ref qp, .ref qf, .ref qn, .ref qi, .ref qw, .int qx_toldAny, .int qx_lastFault, .int qx_lastMoved, .int qx_lastScratched])), (qt, .inr (8, [.ref qt_keyCodes, .ref qt_bytes, .int qt_size, .int qt_most, .int qt_from, .int qt_kind, .int qt_place, .int qt_value, .long qt_code, .int qt_key, .int qt_fault, .int qt_faultPlace])), (qt_bytes, eB G 940 qt_bytes_c)] (fun (r9 : Int32) (u9 : va_W) => ∃ (x0_qt_size : Int32) (x1_qt_bytes_c : Nat → Int32) (r_x : Int32), r9 = r_x ∧ u9 = [(qx, .inr (9, [.ref qt, .ref qs, .ref qd, .ref qa, .ref qb, .ref qh, .ref qr, .ref qe, .ref qp, .ref qf, .ref qn, .ref qi, .ref qw, .int qx_toldAny, .int qx_lastFault, .int qx_lastMoved, .int qx_lastScratched])), (qt, .inr (8, [.ref qt_keyCodes, .ref qt_bytes, .int x0_qt_size, .int qt_most, .int qt_from, .int qt_kind, .int qt_place, .int qt_value, .long qt_code, .int qt_key, .int qt_fault, .int qt_faultPlace])), (qt_bytes, eB G 940 x1_qt_bytes_c)] ∧ (0 ≤ x0_qt_size.toInt ∧ x0_qt_size.toInt ≤ 940) ∧ ((-1) ≤ r_x.toInt ∧ r_x.toInt ≤ 940) ∧ (qt_size.toInt ≤ 920 → r_x.toInt = qt_size.toInt + 20 ∧ x0_qt_size.toInt = qt_size.toInt + 20) ∧ (920 < qt_size.toInt → r_x.toInt = -1 ∧ x0_qt_size.toInt = qt_size.toInt)) := by
  refine Ci.ofQ (by decide) (Nat.le_of_ble_eq_true rfl) ?_
  intro p e s m below meth c ls A args Q hQ B hw hl
  have C : CallFix p m c cX10_feed 6 s args gw "LanternState" := B.1
  have hl : lv_has ls 6 [(0, .ref qx), (1, .int a1), (2, .int a2), (3, .int a3), (4, .int a4), (5, .int a5)] := hl
  refine lv_aload_n C.1 C.2.1 dX10_feed_0 rfl (lv_at hl 0 rfl) ?_
  refine x_get C hw iwX10 9 rfl 0 rfl 0 (by decide) kw446 rfl dX10_feed_1 ?_
  refine x_get C hw iwX9 8 rfl 1 rfl 2 (by decide) kw90 rfl dX10_feed_4 ?_
  refine lv_bipush (v := 20) C.1 C.2.1 dX10_feed_7 (by decide) ?_
  refine lv_iadd C.1 C.2.1 dX10_feed_9 (x_genP (fun z : Int32 => z.toInt = qt_size.toInt + 20) (i_add (X := qt_size.toInt) (Y := 20) rfl rfl (by omega) (by omega)) (fun v1 hv1 => ?_))
  refine lv_sipush (v := 940) C.1 C.2.1 dX10_feed_10 (by decide) ?_
  refine lv_icmp_le (tgt := 18) C.1 C.2.1 dX10_feed_13 (by decide) (fun c2 => ?_) (fun c2 => ?_)
  · skip
    have c2 : v1.toInt ≤ 940 := i_leT (X := v1.toInt) (Y := 940) rfl rfl c2
    refine lv_aload_n C.1 C.2.1 dX10_feed_18 rfl (lv_at hl 0 rfl) ?_
    refine x_get C hw iwX10 9 rfl 0 rfl 0 (by decide) kw446 rfl dX10_feed_19 ?_
    refine lv_iload_n C.1 C.2.1 dX10_feed_22 rfl (lv_at hl 1 rfl) ?_
    refine x_callvV (As := [.int a1]) (rest := []) (wr := [(qx, .inr (9, [.ref qt, .ref qs, .ref qd, .ref qa, .ref qb, .ref qh, .ref qr, .ref qe, .ref qp, .ref qf, .ref qn, .ref qi, .ref qw, .int qx_toldAny, .int qx_lastFault, .int qx_lastMoved, .int qx_lastScratched]))]) C hw (s_X9_put4 qt a1 qt_keyCodes qt_bytes qt_size qt_most qt_from qt_kind qt_place qt_value qt_code qt_key qt_fault qt_faultPlace qt_bytes_c (by omega) (by omega)) mwX9_put kw502 [1, 2] [0] rfl rfl rfl rfl (by decide) 0 rfl rfl rfl rfl hl.1 rfl (Nat.le_of_ble_eq_true rfl) ⟨(Nat.le_of_ble_eq_true rfl), (Nat.le_of_ble_eq_true rfl)⟩ ⟨(Nat.le_of_ble_eq_true rfl), (Nat.le_of_ble_eq_true rfl)⟩ dX10_feed_23 (fun  u9 H locs hp9 hw => ?_)
    obtain ⟨x3, x4, rfl, hf5, hf6⟩ := hp9
    have hw : Wd G s A [(qx, .inr (9, [.ref qt, .ref qs, .ref qd, .ref qa, .ref qb, .ref qh, .ref qr, .ref qe, .ref qp, .ref qf, .ref qn, .ref qi, .ref qw, .int qx_toldAny, .int qx_lastFault, .int qx_lastMoved, .int qx_lastScratched])), (qt, .inr (8, [.ref qt_keyCodes, .ref qt_bytes, .int x3, .int qt_most, .int qt_from, .int qt_kind, .int qt_place, .int qt_value, .long qt_code, .int qt_key, .int qt_fault, .int qt_faultPlace])), (qt_bytes, eB G 940 x4)] H _ := hw
    refine lv_aload_n C.1 C.2.1 dX10_feed_26 rfl (lv_at hl 0 rfl) ?_
    refine x_get C hw iwX10 9 rfl 0 rfl 0 (by decide) kw446 rfl dX10_feed_27 ?_
    refine lv_iload_n C.1 C.2.1 dX10_feed_30 rfl (lv_at hl 2 rfl) ?_
    refine x_callvV (As := [.int a2]) (rest := []) (wr := [(qx, .inr (9, [.ref qt, .ref qs, .ref qd, .ref qa, .ref qb, .ref qh, .ref qr, .ref qe, .ref qp, .ref qf, .ref qn, .ref qi, .ref qw, .int qx_toldAny, .int qx_lastFault, .int qx_lastMoved, .int qx_lastScratched]))]) C hw (s_X9_put4 qt a2 qt_keyCodes qt_bytes x3 qt_most qt_from qt_kind qt_place qt_value qt_code qt_key qt_fault qt_faultPlace x4 (by omega) (by omega)) mwX9_put kw502 [1, 2] [0] rfl rfl rfl rfl (by decide) 0 rfl rfl rfl rfl hl.1 rfl (Nat.le_of_ble_eq_true rfl) ⟨(Nat.le_of_ble_eq_true rfl), (Nat.le_of_ble_eq_true rfl)⟩ ⟨(Nat.le_of_ble_eq_true rfl), (Nat.le_of_ble_eq_true rfl)⟩ dX10_feed_31 (fun  u9 H locs hp9 hw => ?_)
    obtain ⟨x7, x8, rfl, hf9, hf10⟩ := hp9
    have hw : Wd G s A [(qx, .inr (9, [.ref qt, .ref qs, .ref qd, .ref qa, .ref qb, .ref qh, .ref qr, .ref qe, .ref qp, .ref qf, .ref qn, .ref qi, .ref qw, .int qx_toldAny, .int qx_lastFault, .int qx_lastMoved, .int qx_lastScratched])), (qt, .inr (8, [.ref qt_keyCodes, .ref qt_bytes, .int x7, .int qt_most, .int qt_from, .int qt_kind, .int qt_place, .int qt_value, .long qt_code, .int qt_key, .int qt_fault, .int qt_faultPlace])), (qt_bytes, eB G 940 x8)] H _ := hw
    refine lv_aload_n C.1 C.2.1 dX10_feed_34 rfl (lv_at hl 0 rfl) ?_
    refine x_get C hw iwX10 9 rfl 0 rfl 0 (by decide) kw446 rfl dX10_feed_35 ?_
    refine lv_iload_n C.1 C.2.1 dX10_feed_38 rfl (lv_at hl 3 rfl) ?_
    refine x_callvV (As := [.int a3]) (rest := []) (wr := [(qx, .inr (9, [.ref qt, .ref qs, .ref qd, .ref qa, .ref qb, .ref qh, .ref qr, .ref qe, .ref qp, .ref qf, .ref qn, .ref qi, .ref qw, .int qx_toldAny, .int qx_lastFault, .int qx_lastMoved, .int qx_lastScratched]))]) C hw (s_X9_put4 qt a3 qt_keyCodes qt_bytes x7 qt_most qt_from qt_kind qt_place qt_value qt_code qt_key qt_fault qt_faultPlace x8 (by omega) (by omega)) mwX9_put kw502 [1, 2] [0] rfl rfl rfl rfl (by decide) 0 rfl rfl rfl rfl hl.1 rfl (Nat.le_of_ble_eq_true rfl) ⟨(Nat.le_of_ble_eq_true rfl), (Nat.le_of_ble_eq_true rfl)⟩ ⟨(Nat.le_of_ble_eq_true rfl), (Nat.le_of_ble_eq_true rfl)⟩ dX10_feed_39 (fun  u9 H locs hp9 hw => ?_)
    obtain ⟨x11, x12, rfl, hf13, hf14⟩ := hp9
    have hw : Wd G s A [(qx, .inr (9, [.ref qt, .ref qs, .ref qd, .ref qa, .ref qb, .ref qh, .ref qr, .ref qe, .ref qp, .ref qf, .ref qn, .ref qi, .ref qw, .int qx_toldAny, .int qx_lastFault, .int qx_lastMoved, .int qx_lastScratched])), (qt, .inr (8, [.ref qt_keyCodes, .ref qt_bytes, .int x11, .int qt_most, .int qt_from, .int qt_kind, .int qt_place, .int qt_value, .long qt_code, .int qt_key, .int qt_fault, .int qt_faultPlace])), (qt_bytes, eB G 940 x12)] H _ := hw
    refine lv_aload_n C.1 C.2.1 dX10_feed_42 rfl (lv_at hl 0 rfl) ?_
    refine x_get C hw iwX10 9 rfl 0 rfl 0 (by decide) kw446 rfl dX10_feed_43 ?_
    refine lv_iload C.1 C.2.1 dX10_feed_46 (lv_at hl 4 rfl) ?_
    refine x_callvV (As := [.int a4]) (rest := []) (wr := [(qx, .inr (9, [.ref qt, .ref qs, .ref qd, .ref qa, .ref qb, .ref qh, .ref qr, .ref qe, .ref qp, .ref qf, .ref qn, .ref qi, .ref qw, .int qx_toldAny, .int qx_lastFault, .int qx_lastMoved, .int qx_lastScratched]))]) C hw (s_X9_put4 qt a4 qt_keyCodes qt_bytes x11 qt_most qt_from qt_kind qt_place qt_value qt_code qt_key qt_fault qt_faultPlace x12 (by omega) (by omega)) mwX9_put kw502 [1, 2] [0] rfl rfl rfl rfl (by decide) 0 rfl rfl rfl rfl hl.1 rfl (Nat.le_of_ble_eq_true rfl) ⟨(Nat.le_of_ble_eq_true rfl), (Nat.le_of_ble_eq_true rfl)⟩ ⟨(Nat.le_of_ble_eq_true rfl), (Nat.le_of_ble_eq_true rfl)⟩ dX10_feed_48 (fun  u9 H locs hp9 hw => ?_)
    obtain ⟨x15, x16, rfl, hf17, hf18⟩ := hp9
    have hw : Wd G s A [(qx, .inr (9, [.ref qt, .ref qs, .ref qd, .ref qa, .ref qb, .ref qh, .ref qr, .ref qe, .ref qp, .ref qf, .ref qn, .ref qi, .ref qw, .int qx_toldAny, .int qx_lastFault, .int qx_lastMoved, .int qx_lastScratched])), (qt, .inr (8, [.ref qt_keyCodes, .ref qt_bytes, .int x15, .int qt_most, .int qt_from, .int qt_kind, .int qt_place, .int qt_value, .long qt_code, .int qt_key, .int qt_fault, .int qt_faultPlace])), (qt_bytes, eB G 940 x16)] H _ := hw
    refine lv_aload_n C.1 C.2.1 dX10_feed_51 rfl (lv_at hl 0 rfl) ?_
    refine x_get C hw iwX10 9 rfl 0 rfl 0 (by decide) kw446 rfl dX10_feed_52 ?_
    refine lv_iload C.1 C.2.1 dX10_feed_55 (lv_at hl 5 rfl) ?_
    refine x_callvV (As := [.int a5]) (rest := []) (wr := [(qx, .inr (9, [.ref qt, .ref qs, .ref qd, .ref qa, .ref qb, .ref qh, .ref qr, .ref qe, .ref qp, .ref qf, .ref qn, .ref qi, .ref qw, .int qx_toldAny, .int qx_lastFault, .int qx_lastMoved, .int qx_lastScratched]))]) C hw (s_X9_put4 qt a5 qt_keyCodes qt_bytes x15 qt_most qt_from qt_kind qt_place qt_value qt_code qt_key qt_fault qt_faultPlace x16 (by omega) (by omega)) mwX9_put kw502 [1, 2] [0] rfl rfl rfl rfl (by decide) 0 rfl rfl rfl rfl hl.1 rfl (Nat.le_of_ble_eq_true rfl) ⟨(Nat.le_of_ble_eq_true rfl), (Nat.le_of_ble_eq_true rfl)⟩ ⟨(Nat.le_of_ble_eq_true rfl), (Nat.le_of_ble_eq_true rfl)⟩ dX10_feed_57 (fun  u9 H locs hp9 hw => ?_)
    obtain ⟨x19, x20, rfl, hf21, hf22⟩ := hp9
    have hw : Wd G s A [(qx, .inr (9, [.ref qt, .ref qs, .ref qd, .ref qa, .ref qb, .ref qh, .ref qr, .ref qe, .ref qp, .ref qf, .ref qn, .ref qi, .ref qw, .int qx_toldAny, .int qx_lastFault, .int qx_lastMoved, .int qx_lastScratched])), (qt, .inr (8, [.ref qt_keyCodes, .ref qt_bytes, .int x19, .int qt_most, .int qt_from, .int qt_kind, .int qt_place, .int qt_value, .long qt_code, .int qt_key, .int qt_fault, .int qt_faultPlace])), (qt_bytes, eB G 940 x20)] H _ := hw
    refine lv_aload_n C.1 C.2.1 dX10_feed_60 rfl (lv_at hl 0 rfl) ?_
    refine x_get C hw iwX10 9 rfl 0 rfl 0 (by decide) kw446 rfl dX10_feed_61 ?_
    refine x_get C hw iwX9 8 rfl 1 rfl 2 (by decide) kw90 rfl dX10_feed_64 ?_
    exact x_retiQ hQ B hw ⟨x19, x20, x19, rfl, rfl, (by omega), (by omega), (by omega), (by omega)⟩ (Nat.le_of_ble_eq_true rfl) (Nat.le_of_ble_eq_true rfl) dX10_feed_67
  · skip
    have c2 : 940 < v1.toInt := i_leF (X := v1.toInt) (Y := 940) rfl rfl c2
    refine lv_iconst (v := (-1)) C.1 C.2.1 dX10_feed_16 (by decide) ?_
    exact x_retiQ hQ B hw ⟨qt_size, qt_bytes_c, (-1), rfl, rfl, (by omega), (by decide), (by have e0 : ((-1) : Int32).toInt = (-1) := rfl; omega), (by have e0 : ((-1) : Int32).toInt = (-1) := rfl; omega)⟩ (Nat.le_of_ble_eq_true rfl) (Nat.le_of_ble_eq_true rfl) dX10_feed_17
theorem dX10_end_0 : decode cX10_end 0 = .ok (.iload_n 1, 1) := by decide +kernel
theorem dX10_end_1 : decode cX10_end 1 = .ok (.ifCond .lt 14, 3) := by decide +kernel
theorem dX10_end_15 : decode cX10_end 15 = .ok (.iconst 0, 1) := by decide +kernel
theorem dX10_end_16 : decode cX10_end 16 = .ok (.ireturn, 1) := by decide +kernel
theorem dX10_end_4 : decode cX10_end 4 = .ok (.iload_n 1, 1) := by decide +kernel
theorem dX10_end_5 : decode cX10_end 5 = .ok (.aload_n 0, 1) := by decide +kernel
theorem dX10_end_6 : decode cX10_end 6 = .ok (.getfield 10, 3) := by decide +kernel
theorem dX10_end_9 : decode cX10_end 9 = .ok (.getfield 92, 3) := by decide +kernel
theorem dX10_end_12 : decode cX10_end 12 = .ok (.if_icmp .le 5, 3) := by decide +kernel
theorem dX10_end_17 : decode cX10_end 17 = .ok (.aload_n 0, 1) := by decide +kernel
theorem dX10_end_18 : decode cX10_end 18 = .ok (.getfield 10, 3) := by decide +kernel
theorem dX10_end_21 : decode cX10_end 21 = .ok (.iload_n 1, 1) := by decide +kernel
theorem dX10_end_22 : decode cX10_end 22 = .ok (.putfield 92, 3) := by decide +kernel
theorem dX10_end_25 : decode cX10_end 25 = .ok (.iconst 1, 1) := by decide +kernel
theorem dX10_end_26 : decode cX10_end 26 = .ok (.ireturn, 1) := by decide +kernel
set_option maxHeartbeats 4000000 in
set_option maxRecDepth 100000 in
theorem s_X10_end {l : Launch} {G : Gc} (qx : Nat) (a1 : Int32) (qt : Nat) (qs : Nat) (qd : Nat) (qa : Nat) (qb : Nat) (qh : Nat) (qr : Nat) (qe : Nat) (qp : Nat) (qf : Nat) (qn : Nat) (qi : Nat) (qw : Nat) (qx_toldAny : Int32) (qx_lastFault : Int32) (qx_lastMoved : Int32) (qx_lastScratched : Int32) (qt_keyCodes : Nat) (qt_bytes : Nat) (qt_size : Int32) (qt_most : Int32) (qt_from : Int32) (qt_kind : Int32) (qt_place : Int32) (qt_value : Int32) (qt_code : Int64) (qt_key : Int32) (qt_fault : Int32) (qt_faultPlace : Int32) (hi_qt_size : 0 ≤ qt_size.toInt ∧ qt_size.toInt ≤ 940) : Ci l yX10_end cX10_end 2 (some .boolean) 0 0 0 G [.ref qx, .int a1] [(qx, .inr (9, [.ref qt, .ref qs, .ref qd, .ref qa, .ref qb, .ref qh, .ref qr, .ref qe, .ref qp, .ref qf, .ref qn, .ref qi, .ref qw, .int qx_toldAny, .int qx_lastFault, .int qx_lastMoved, .int qx_lastScratched])), (qt, .inr (8, [.ref qt_keyCodes, .ref qt_bytes, .int qt_size, .int qt_most, .int qt_from, .int qt_kind, .int qt_place, .int qt_value, .long qt_code, .int qt_key, .int qt_fault, .int qt_faultPlace]))] (fun (r9 : Int32) (u9 : va_W) => (r9 = 0 ∧ u9 = [(qx, .inr (9, [.ref qt, .ref qs, .ref qd, .ref qa, .ref qb, .ref qh, .ref qr, .ref qe, .ref qp, .ref qf, .ref qn, .ref qi, .ref qw, .int qx_toldAny, .int qx_lastFault, .int qx_lastMoved, .int qx_lastScratched])), (qt, .inr (8, [.ref qt_keyCodes, .ref qt_bytes, .int qt_size, .int qt_most, .int qt_from, .int qt_kind, .int qt_place, .int qt_value, .long qt_code, .int qt_key, .int qt_fault, .int qt_faultPlace]))] ∧ (a1.toInt < 0 ∨ qt_size.toInt < a1.toInt)) ∨ (r9 = 1 ∧ u9 = [(qx, .inr (9, [.ref qt, .ref qs, .ref qd, .ref qa, .ref qb, .ref qh, .ref qr, .ref qe, .ref qp, .ref qf, .ref qn, .ref qi, .ref qw, .int qx_toldAny, .int qx_lastFault, .int qx_lastMoved, .int qx_lastScratched])), (qt, .inr (8, [.ref qt_keyCodes, .ref qt_bytes, .int a1, .int qt_most, .int qt_from, .int qt_kind, .int qt_place, .int qt_value, .long qt_code, .int qt_key, .int qt_fault, .int qt_faultPlace]))] ∧ (0 ≤ a1.toInt ∧ a1.toInt ≤ qt_size.toInt))) := by
  refine Ci.ofQ (by decide) (Nat.le_of_ble_eq_true rfl) ?_
  intro p e s m below meth c ls A args Q hQ B hw hl
  have C : CallFix p m c cX10_end 2 s args gw "LanternState" := B.1
  have hl : lv_has ls 2 [(0, .ref qx), (1, .int a1)] := hl
  refine lv_iload_n C.1 C.2.1 dX10_end_0 rfl (lv_at hl 1 rfl) ?_
  refine lv_if_lt (tgt := 15) C.1 C.2.1 dX10_end_1 (by decide) (fun c1 => ?_) (fun c1 => ?_)
  · skip
    have c1 : a1.toInt < 0 := i_ltT (X := a1.toInt) (Y := 0) rfl rfl c1
    have bc1_a1 := i_bd a1
    refine lv_iconst (v := 0) C.1 C.2.1 dX10_end_15 (by decide) ?_
    exact x_retzQ hQ B hw rfl (Or.inl ⟨rfl, rfl, (by omega)⟩) (Nat.le_of_ble_eq_true rfl) (Nat.le_of_ble_eq_true rfl) dX10_end_16
  · skip
    have c1 : 0 ≤ a1.toInt := i_ltF (X := a1.toInt) (Y := 0) rfl rfl c1
    have bc1_a1 := i_bd a1
    refine lv_iload_n C.1 C.2.1 dX10_end_4 rfl (lv_at hl 1 rfl) ?_
    refine lv_aload_n C.1 C.2.1 dX10_end_5 rfl (lv_at hl 0 rfl) ?_
    refine x_get C hw iwX10 9 rfl 0 rfl 0 (by decide) kw446 rfl dX10_end_6 ?_
    refine x_get C hw iwX9 8 rfl 1 rfl 2 (by decide) kw90 rfl dX10_end_9 ?_
    refine lv_icmp_le (tgt := 17) C.1 C.2.1 dX10_end_12 (by decide) (fun c2 => ?_) (fun c2 => ?_)
    · skip
      have c2 : a1.toInt ≤ qt_size.toInt := i_leT (X := a1.toInt) (Y := qt_size.toInt) rfl rfl c2
      have bc2_a1 := i_bd a1
      refine lv_aload_n C.1 C.2.1 dX10_end_17 rfl (lv_at hl 0 rfl) ?_
      refine x_get C hw iwX10 9 rfl 0 rfl 0 (by decide) kw446 rfl dX10_end_18 ?_
      refine lv_iload_n C.1 C.2.1 dX10_end_21 rfl (lv_at hl 1 rfl) ?_
      refine x_put (w' := [(qx, .inr (9, [.ref qt, .ref qs, .ref qd, .ref qa, .ref qb, .ref qh, .ref qr, .ref qe, .ref qp, .ref qf, .ref qn, .ref qi, .ref qw, .int qx_toldAny, .int qx_lastFault, .int qx_lastMoved, .int qx_lastScratched])), (qt, .inr (8, [.ref qt_keyCodes, .ref qt_bytes, .int a1, .int qt_most, .int qt_from, .int qt_kind, .int qt_place, .int qt_value, .long qt_code, .int qt_key, .int qt_fault, .int qt_faultPlace]))]) C hw iwX9 tyX9_ok nmX9 8 rfl 1 rfl 2 (by decide) kw90 rfl rfl rfl (Nat.le_of_ble_eq_true rfl) rfl dX10_end_22 (fun H locs hw => ?_)
      refine lv_iconst (v := 1) C.1 C.2.1 dX10_end_25 (by decide) ?_
      exact x_retzQ hQ B hw rfl (Or.inr ⟨rfl, rfl, (by omega)⟩) (Nat.le_of_ble_eq_true rfl) (Nat.le_of_ble_eq_true rfl) dX10_end_26
    · skip
      have c2 : qt_size.toInt < a1.toInt := i_leF (X := a1.toInt) (Y := qt_size.toInt) rfl rfl c2
      have bc2_a1 := i_bd a1
      refine lv_iconst (v := 0) C.1 C.2.1 dX10_end_15 (by decide) ?_
      exact x_retzQ hQ B hw rfl (Or.inl ⟨rfl, rfl, (by omega)⟩) (Nat.le_of_ble_eq_true rfl) (Nat.le_of_ble_eq_true rfl) dX10_end_16
theorem dX10_session_0 : decode cX10_session 0 = .ok (.aload_n 0, 1) := by decide +kernel
theorem dX10_session_1 : decode cX10_session 1 = .ok (.getfield 10, 3) := by decide +kernel
theorem dX10_session_4 : decode cX10_session 4 = .ok (.sipush 900, 3) := by decide +kernel
theorem dX10_session_7 : decode cX10_session 7 = .ok (.invokevirtual 99, 3) := by decide +kernel
theorem mwX9_open : MwV yX9_open cX9_open 2 none 1 := ⟨⟨kw517, kw2, by decide +kernel⟩, kw515, kw516⟩
theorem dX10_session_10 : decode cX10_session 10 = .ok (.aload_n 0, 1) := by decide +kernel
theorem dX10_session_11 : decode cX10_session 11 = .ok (.getfield 23, 3) := by decide +kernel
theorem dX10_session_14 : decode cX10_session 14 = .ok (.aload_n 0, 1) := by decide +kernel
theorem dX10_session_15 : decode cX10_session 15 = .ok (.getfield 10, 3) := by decide +kernel
theorem dX10_session_18 : decode cX10_session 18 = .ok (.invokevirtual 102, 3) := by decide +kernel
theorem mwX5_read : MwV yX5_read cX5_read 2 (some .boolean) 1 := ⟨⟨kw521, kw7, by decide +kernel⟩, kw519, kw520⟩
theorem dX10_session_21 : decode cX10_session 21 = .ok (.istore_n 1, 1) := by decide +kernel
theorem dX10_session_22 : decode cX10_session 22 = .ok (.aload_n 0, 1) := by decide +kernel
theorem dX10_session_23 : decode cX10_session 23 = .ok (.invokevirtual 106, 3) := by decide +kernel
theorem mwX10_closeText : MwV yX10_closeText cX10_closeText 1 none 0 := ⟨⟨kw625, kw1, by decide +kernel⟩, kw624, kS12⟩
theorem dX10_session_26 : decode cX10_session 26 = .ok (.iload_n 1, 1) := by decide +kernel
theorem dX10_session_27 : decode cX10_session 27 = .ok (.ifCond .ne 13, 3) := by decide +kernel
theorem dX10_session_30 : decode cX10_session 30 = .ok (.iconst (-1), 1) := by decide +kernel
theorem dX10_session_31 : decode cX10_session 31 = .ok (.aload_n 0, 1) := by decide +kernel
theorem dX10_session_32 : decode cX10_session 32 = .ok (.getfield 10, 3) := by decide +kernel
theorem dX10_session_35 : decode cX10_session 35 = .ok (.getfield 109, 3) := by decide +kernel
theorem dX10_session_38 : decode cX10_session 38 = .ok (.isub, 1) := by decide +kernel
theorem dX10_session_39 : decode cX10_session 39 = .ok (.ireturn, 1) := by decide +kernel
theorem dX10_session_40 : decode cX10_session 40 = .ok (.aload_n 0, 1) := by decide +kernel
theorem dX10_session_41 : decode cX10_session 41 = .ok (.getfield 19, 3) := by decide +kernel
theorem dX10_session_44 : decode cX10_session 44 = .ok (.aload_n 0, 1) := by decide +kernel
theorem dX10_session_45 : decode cX10_session 45 = .ok (.getfield 23, 3) := by decide +kernel
theorem dX10_session_48 : decode cX10_session 48 = .ok (.invokevirtual 112, 3) := by decide +kernel
theorem mwX5_copyFrom : MwV yX5_copyFrom cX5_copyFrom 2 none 1 := ⟨⟨kw629, kw7, by decide +kernel⟩, kw627, kw628⟩
theorem dX10_session_51 : decode cX10_session 51 = .ok (.aload_n 0, 1) := by decide +kernel
theorem dX10_session_52 : decode cX10_session 52 = .ok (.getfield 29, 3) := by decide +kernel
theorem dX10_session_55 : decode cX10_session 55 = .ok (.aload_n 0, 1) := by decide +kernel
theorem dX10_session_56 : decode cX10_session 56 = .ok (.getfield 19, 3) := by decide +kernel
theorem dX10_session_59 : decode cX10_session 59 = .ok (.invokevirtual 116, 3) := by decide +kernel
theorem mwX8_begin : MwV yX8_begin cX8_begin 3 none 1 := ⟨⟨kw636, kw8, by decide +kernel⟩, kw634, kw635⟩
theorem dX10_session_62 : decode cX10_session 62 = .ok (.aload_n 0, 1) := by decide +kernel
theorem dX10_session_63 : decode cX10_session 63 = .ok (.getfield 46, 3) := by decide +kernel
theorem dX10_session_66 : decode cX10_session 66 = .ok (.iconst 0, 1) := by decide +kernel
theorem dX10_session_67 : decode cX10_session 67 = .ok (.putfield 119, 3) := by decide +kernel
theorem dX10_session_70 : decode cX10_session 70 = .ok (.aload_n 0, 1) := by decide +kernel
theorem dX10_session_71 : decode cX10_session 71 = .ok (.getfield 39, 3) := by decide +kernel
theorem dX10_session_74 : decode cX10_session 74 = .ok (.invokevirtual 123, 3) := by decide +kernel
theorem mwX2_clear : MwV yX2_clear cX2_clear 1 none 0 := ⟨⟨kw640, kw9, by decide +kernel⟩, kw638, kw639⟩
theorem dX10_session_77 : decode cX10_session 77 = .ok (.aload_n 0, 1) := by decide +kernel
theorem dX10_session_78 : decode cX10_session 78 = .ok (.getfield 19, 3) := by decide +kernel
theorem dX10_session_81 : decode cX10_session 81 = .ok (.getfield 126, 3) := by decide +kernel
theorem dX10_session_84 : decode cX10_session 84 = .ok (.ireturn, 1) := by decide +kernel
set_option maxHeartbeats 4000000 in
set_option maxRecDepth 100000 in
theorem s_X10_session {l : Launch} {G : Gc} (qx : Nat) (qt : Nat) (qs : Nat) (qd : Nat) (qa : Nat) (qb : Nat) (qh : Nat) (qr : Nat) (qe : Nat) (qp : Nat) (qf : Nat) (qn : Nat) (qi : Nat) (qw : Nat) (qx_toldAny : Int32) (qx_lastFault : Int32) (qx_lastMoved : Int32) (qx_lastScratched : Int32) (qt_keyCodes : Nat) (qt_bytes : Nat) (qt_size : Int32) (qt_most : Int32) (qt_from : Int32) (qt_kind : Int32) (qt_place : Int32) (qt_value : Int32) (qt_code : Int64) (qt_key : Int32) (qt_fault : Int32) (qt_faultPlace : Int32) (qt_keyCodes_c : Nat → Int64) (qt_bytes_c : Nat → Int32) (qs_slides : Int32) (qs_hearers : Int32) (qs_nears : Int32) (qs_lines : Int32) (qs_pass : Int32) (qs_spread : Int32) (qs_lamp : Int32) (qs_behind : Int32) (qs_settingsTold : Int32) (qs_slideNames : Nat) (qs_pictures : Nat) (qs_heats : Nat) (qs_after : Nat) (qs_hearerNames : Nat) (qs_needs : Nat) (qs_likes : Nat) (qs_hates : Nat) (qs_near : Nat) (qs_slideNames_c : Nat → Int64) (qs_pictures_c : Nat → Int32) (qs_heats_c : Nat → Int32) (qs_after_c : Nat → Int32) (qs_hearerNames_c : Nat → Int64) (qs_needs_c : Nat → Int32) (qs_likes_c : Nat → Int32) (qs_hates_c : Nat → Int32) (qs_near_c : Nat → Int32) (qd_slides : Int32) (qd_hearers : Int32) (qd_nears : Int32) (qd_lines : Int32) (qd_pass : Int32) (qd_spread : Int32) (qd_lamp : Int32) (qd_behind : Int32) (qd_settingsTold : Int32) (qd_slideNames : Nat) (qd_pictures : Nat) (qd_heats : Nat) (qd_after : Nat) (qd_hearerNames : Nat) (qd_needs : Nat) (qd_likes : Nat) (qd_hates : Nat) (qd_near : Nat) (qd_slideNames_c : Nat → Int64) (qd_pictures_c : Nat → Int32) (qd_heats_c : Nat → Int32) (qd_after_c : Nat → Int32) (qd_hearerNames_c : Nat → Int64) (qd_needs_c : Nat → Int32) (qd_likes_c : Nat → Int32) (qd_hates_c : Nat → Int32) (qd_near_c : Nat → Int32) (qa_hour : Int32) (qa_heat : Int32) (qa_black : Int32) (qa_so : Int32) (qa_cracked : Int32) (qa_behind : Int32) (qa_allSighs : Int32) (qa_seed : Int32) (qa_pictures : Nat) (qa_shown : Nat) (qa_sighed : Nat) (qa_pictures_c : Nat → Int32) (qa_shown_c : Nat → Int32) (qa_sighed_c : Nat → Int32) (qh_kept : Nat) (qh_first : Int32) (qh_size : Int32) (qr_there : Int32) (qr_ones : Int32) (qr_parts : Int32) (qr_keys : Nat) (qr_signs : Nat) (qr_numbers : Nat) (qr_stack : Nat) (hi_qt_size : 0 ≤ qt_size.toInt ∧ qt_size.toInt ≤ 940) (hi_qs_slides : 0 ≤ qs_slides.toInt ∧ qs_slides.toInt ≤ 6) (hi_qs_hearers : 0 ≤ qs_hearers.toInt ∧ qs_hearers.toInt ≤ 8) (hf_qs_after_c : inA 6 (-1) 5 qs_after_c) (hi_qd_slides : 0 ≤ qd_slides.toInt ∧ qd_slides.toInt ≤ 6) (hi_qd_hearers : 0 ≤ qd_hearers.toInt ∧ qd_hearers.toInt ≤ 8) (hf_qd_after_c : inA 6 (-1) 5 qd_after_c) (hi_qa_black : 0 ≤ qa_black.toInt ∧ qa_black.toInt ≤ 1) (hi_qh_size : 0 ≤ qh_size.toInt ∧ qh_size.toInt ≤ 8) (hi_qr_there : 0 ≤ qr_there.toInt ∧ qr_there.toInt ≤ 1) : Ci l yX10_session cX10_session 2 (some .int) 7 0 0 G [.ref qx] [(qx, .inr (9, [.ref qt, .ref qs, .ref qd, .ref qa, .ref qb, .ref qh, .ref qr, .ref qe, .ref qp, .ref qf, .ref qn, .ref qi, .ref qw, .int qx_toldAny, .int qx_lastFault, .int qx_lastMoved, .int qx_lastScratched])), (qt, .inr (8, [.ref qt_keyCodes, .ref qt_bytes, .int qt_size, .int qt_most, .int qt_from, .int qt_kind, .int qt_place, .int qt_value, .long qt_code, .int qt_key, .int qt_fault, .int qt_faultPlace])), (qt_keyCodes, eJ G 27 qt_keyCodes_c), (qt_bytes, eB G 940 qt_bytes_c), (qs, .inr (4, [.int qs_slides, .int qs_hearers, .int qs_nears, .int qs_lines, .int qs_pass, .int qs_spread, .int qs_lamp, .int qs_behind, .int qs_settingsTold, .ref qs_slideNames, .ref qs_pictures, .ref qs_heats, .ref qs_after, .ref qs_hearerNames, .ref qs_needs, .ref qs_likes, .ref qs_hates, .ref qs_near])), (qs_slideNames, eJ G 6 qs_slideNames_c), (qs_pictures, eI G 6 qs_pictures_c), (qs_heats, eI G 6 qs_heats_c), (qs_after, eI G 6 qs_after_c), (qs_hearerNames, eJ G 8 qs_hearerNames_c), (qs_needs, eI G 8 qs_needs_c), (qs_likes, eI G 8 qs_likes_c), (qs_hates, eI G 8 qs_hates_c), (qs_near, eI G 8 qs_near_c), (qd, .inr (4, [.int qd_slides, .int qd_hearers, .int qd_nears, .int qd_lines, .int qd_pass, .int qd_spread, .int qd_lamp, .int qd_behind, .int qd_settingsTold, .ref qd_slideNames, .ref qd_pictures, .ref qd_heats, .ref qd_after, .ref qd_hearerNames, .ref qd_needs, .ref qd_likes, .ref qd_hates, .ref qd_near])), (qd_slideNames, eJ G 6 qd_slideNames_c), (qd_pictures, eI G 6 qd_pictures_c), (qd_heats, eI G 6 qd_heats_c), (qd_after, eI G 6 qd_after_c), (qd_hearerNames, eJ G 8 qd_hearerNames_c), (qd_needs, eI G 8 qd_needs_c), (qd_likes, eI G 8 qd_likes_c), (qd_hates, eI G 8 qd_hates_c), (qd_near, eI G 8 qd_near_c), (qa, .inr (7, [.int qa_hour, .int qa_heat, .int qa_black, .int qa_so, .int qa_cracked, .int qa_behind, .int qa_allSighs, .int qa_seed, .ref qa_pictures, .ref qa_shown, .ref qa_sighed])), (qa_pictures, eI G 6 qa_pictures_c), (qa_shown, eI G 6 qa_shown_c), (qa_sighed, eI G 8 qa_sighed_c), (qh, .inr (2, [.ref qh_kept, .int qh_first, .int qh_size])), (qr, .inr (6, [.int qr_there, .int qr_ones, .int qr_parts, .ref qr_keys, .ref qr_signs, .ref qr_numbers, .ref qr_stack]))] (fun (r9 : Int32) (u9 : va_W) => ∃ (x0_qx_lastFault : Int32) (x1_qt_from : Int32) (x2_qt_kind : Int32) (x3_qt_place : Int32) (x4_qt_value : Int32) (x5_qt_code : Int64) (x6_qt_key : Int32) (x7_qt_fault : Int32) (x8_qt_faultPlace : Int32) (x9_qs_slides : Int32) (x10_qs_hearers : Int32) (x11_qs_nears : Int32) (x12_qs_lines : Int32) (x13_qs_pass : Int32) (x14_qs_spread : Int32) (x15_qs_lamp : Int32) (x16_qs_behind : Int32) (x17_qs_slideNames_c : Nat → Int64) (x18_qs_pictures_c : Nat → Int32) (x19_qs_heats_c : Nat → Int32) (x20_qs_after_c : Nat → Int32) (x21_qs_hearerNames_c : Nat → Int64) (x22_qs_needs_c : Nat → Int32) (x23_qs_likes_c : Nat → Int32) (x24_qs_hates_c : Nat → Int32) (x25_qs_near_c : Nat → Int32) (x26_qd_slides : Int32) (x27_qd_hearers : Int32) (x28_qd_nears : Int32) (x29_qd_lines : Int32) (x30_qd_pass : Int32) (x31_qd_spread : Int32) (x32_qd_lamp : Int32) (x33_qd_behind : Int32) (x34_qd_settingsTold : Int32) (x35_qd_slideNames_c : Nat → Int64) (x36_qd_pictures_c : Nat → Int32) (x37_qd_heats_c : Nat → Int32) (x38_qd_after_c : Nat → Int32) (x39_qd_hearerNames_c : Nat → Int64) (x40_qd_needs_c : Nat → Int32) (x41_qd_likes_c : Nat → Int32) (x42_qd_hates_c : Nat → Int32) (x43_qd_near_c : Nat → Int32) (x44_qa_hour : Int32) (x45_qa_heat : Int32) (x46_qa_black : Int32) (x47_qa_so : Int32) (x48_qa_cracked : Int32) (x49_qa_behind : Int32) (x50_qa_allSighs : Int32) (x51_qa_pictures_c : Nat → Int32) (x52_qa_shown_c : Nat → Int32) (x53_qa_sighed_c : Nat → Int32) (x54_qh_size : Int32) (x55_qr_there : Int32) (r_x : Int32), r9 = r_x ∧ u9 = [(qx, .inr (9, [.ref qt, .ref qs, .ref qd, .ref qa, .ref qb, .ref qh, .ref qr, .ref qe, .ref qp, .ref qf, .ref qn, .ref qi, .ref qw, .int qx_toldAny, .int x0_qx_lastFault, .int qx_lastMoved, .int qx_lastScratched])), (qt, .inr (8, [.ref qt_keyCodes, .ref qt_bytes, .int 0, .int 900, .int x1_qt_from, .int x2_qt_kind, .int x3_qt_place, .int x4_qt_value, .long x5_qt_code, .int x6_qt_key, .int x7_qt_fault, .int x8_qt_faultPlace])), (qt_keyCodes, eJ G 27 qt_keyCodes_c), (qt_bytes, eB G 940 qt_bytes_c), (qs, .inr (4, [.int x9_qs_slides, .int x10_qs_hearers, .int x11_qs_nears, .int x12_qs_lines, .int x13_qs_pass, .int x14_qs_spread, .int x15_qs_lamp, .int x16_qs_behind, .int qs_settingsTold, .ref qs_slideNames, .ref qs_pictures, .ref qs_heats, .ref qs_after, .ref qs_hearerNames, .ref qs_needs, .ref qs_likes, .ref qs_hates, .ref qs_near])), (qs_slideNames, eJ G 6 x17_qs_slideNames_c), (qs_pictures, eI G 6 x18_qs_pictures_c), (qs_heats, eI G 6 x19_qs_heats_c), (qs_after, eI G 6 x20_qs_after_c), (qs_hearerNames, eJ G 8 x21_qs_hearerNames_c), (qs_needs, eI G 8 x22_qs_needs_c), (qs_likes, eI G 8 x23_qs_likes_c), (qs_hates, eI G 8 x24_qs_hates_c), (qs_near, eI G 8 x25_qs_near_c), (qd, .inr (4, [.int x26_qd_slides, .int x27_qd_hearers, .int x28_qd_nears, .int x29_qd_lines, .int x30_qd_pass, .int x31_qd_spread, .int x32_qd_lamp, .int x33_qd_behind, .int x34_qd_settingsTold, .ref qd_slideNames, .ref qd_pictures, .ref qd_heats, .ref qd_after, .ref qd_hearerNames, .ref qd_needs, .ref qd_likes, .ref qd_hates, .ref qd_near])), (qd_slideNames, eJ G 6 x35_qd_slideNames_c), (qd_pictures, eI G 6 x36_qd_pictures_c), (qd_heats, eI G 6 x37_qd_heats_c), (qd_after, eI G 6 x38_qd_after_c), (qd_hearerNames, eJ G 8 x39_qd_hearerNames_c), (qd_needs, eI G 8 x40_qd_needs_c), (qd_likes, eI G 8 x41_qd_likes_c), (qd_hates, eI G 8 x42_qd_hates_c), (qd_near, eI G 8 x43_qd_near_c), (qa, .inr (7, [.int x44_qa_hour, .int x45_qa_heat, .int x46_qa_black, .int x47_qa_so, .int x48_qa_cracked, .int x49_qa_behind, .int x50_qa_allSighs, .int qa_seed, .ref qa_pictures, .ref qa_shown, .ref qa_sighed])), (qa_pictures, eI G 6 x51_qa_pictures_c), (qa_shown, eI G 6 x52_qa_shown_c), (qa_sighed, eI G 8 x53_qa_sighed_c), (qh, .inr (2, [.ref qh_kept, .int qh_first, .int x54_qh_size])), (qr, .inr (6, [.int x55_qr_there, .int qr_ones, .int qr_parts, .ref qr_keys, .ref qr_signs, .ref qr_numbers, .ref qr_stack]))] ∧ (0 ≤ x9_qs_slides.toInt ∧ x9_qs_slides.toInt ≤ 6) ∧ (0 ≤ x10_qs_hearers.toInt ∧ x10_qs_hearers.toInt ≤ 8) ∧ (0 ≤ x26_qd_slides.toInt ∧ x26_qd_slides.toInt ≤ 6) ∧ (0 ≤ x27_qd_hearers.toInt ∧ x27_qd_hearers.toInt ≤ 8) ∧ (0 ≤ x29_qd_lines.toInt ∧ x29_qd_lines.toInt ≤ 940) ∧ (0 ≤ x46_qa_black.toInt ∧ x46_qa_black.toInt ≤ 1) ∧ (0 ≤ x54_qh_size.toInt ∧ x54_qh_size.toInt ≤ 8) ∧ (0 ≤ x55_qr_there.toInt ∧ x55_qr_there.toInt ≤ 1) ∧ (inA 6 (-1) 5 x20_qs_after_c) ∧ (inA 6 (-1) 5 x38_qd_after_c)) := by
  refine Ci.ofQ (by decide) (Nat.le_of_ble_eq_true rfl) ?_
  intro p e s m below meth c ls A args Q hQ B hw hl
  have C : CallFix p m c cX10_session 2 s args gw "LanternState" := B.1
  have hl : lv_has ls 2 [(0, .ref qx)] := hl
  refine lv_aload_n C.1 C.2.1 dX10_session_0 rfl (lv_at hl 0 rfl) ?_
  refine x_get C hw iwX10 9 rfl 0 rfl 0 (by decide) kw446 rfl dX10_session_1 ?_
  refine lv_sipush (v := 900) C.1 C.2.1 dX10_session_4 (by decide) ?_
  refine x_callvV (As := [.int 900]) (rest := []) (wr := [(qx, .inr (9, [.ref qt, .ref qs, .ref qd, .ref qa, .ref qb, .ref qh, .ref qr, .ref qe, .ref qp, .ref qf, .ref qn, .ref qi, .ref qw, .int qx_toldAny, .int qx_lastFault, .int qx_lastMoved, .int qx_lastScratched])), (qt_keyCodes, eJ G 27 qt_keyCodes_c), (qt_bytes, eB G 940 qt_bytes_c), (qs, .inr (4, [.int qs_slides, .int qs_hearers, .int qs_nears, .int qs_lines, .int qs_pass, .int qs_spread, .int qs_lamp, .int qs_behind, .int qs_settingsTold, .ref qs_slideNames, .ref qs_pictures, .ref qs_heats, .ref qs_after, .ref qs_hearerNames, .ref qs_needs, .ref qs_likes, .ref qs_hates, .ref qs_near])), (qs_slideNames, eJ G 6 qs_slideNames_c), (qs_pictures, eI G 6 qs_pictures_c), (qs_heats, eI G 6 qs_heats_c), (qs_after, eI G 6 qs_after_c), (qs_hearerNames, eJ G 8 qs_hearerNames_c), (qs_needs, eI G 8 qs_needs_c), (qs_likes, eI G 8 qs_likes_c), (qs_hates, eI G 8 qs_hates_c), (qs_near, eI G 8 qs_near_c), (qd, .inr (4, [.int qd_slides, .int qd_hearers, .int qd_nears, .int qd_lines, .int qd_pass, .int qd_spread, .int qd_lamp, .int qd_behind, .int qd_settingsTold, .ref qd_slideNames, .ref qd_pictures, .ref qd_heats, .ref qd_after, .ref qd_hearerNames, .ref qd_needs, .ref qd_likes, .ref qd_hates, .ref qd_near])), (qd_slideNames, eJ G 6 qd_slideNames_c), (qd_pictures, eI G 6 qd_pictures_c), (qd_heats, eI G 6 qd_heats_c), (qd_after, eI G 6 qd_after_c), (qd_hearerNames, eJ G 8 qd_hearerNames_c), (qd_needs, eI G 8 qd_needs_c), (qd_likes, eI G 8 qd_likes_c), (qd_hates, eI G 8 qd_hates_c), (qd_near, eI G 8 qd_near_c), (qa, .inr (7, [.int qa_hour, .int qa_heat, .int qa_black, .int qa_so, .int qa_cracked, .int qa_behind, .int qa_allSighs, .int qa_seed, .ref qa_pictures, .ref qa_shown, .ref qa_sighed])), (qa_pictures, eI G 6 qa_pictures_c), (qa_shown, eI G 6 qa_shown_c), (qa_sighed, eI G 8 qa_sighed_c), (qh, .inr (2, [.ref qh_kept, .int qh_first, .int qh_size])), (qr, .inr (6, [.int qr_there, .int qr_ones, .int qr_parts, .ref qr_keys, .ref qr_signs, .ref qr_numbers, .ref qr_stack]))]) C hw (s_X9_open qt 900 qt_keyCodes qt_bytes qt_size qt_most qt_from qt_kind qt_place qt_value qt_code qt_key qt_fault qt_faultPlace) mwX9_open kw514 [1] [0, 2, 3, 4, 5, 6, 7, 8, 9, 10, 11, 12, 13, 14, 15, 16, 17, 18, 19, 20, 21, 22, 23, 24, 25, 26, 27, 28, 29] rfl rfl rfl rfl (by decide) 0 rfl rfl rfl rfl hl.1 rfl (Nat.le_of_ble_eq_true rfl) ⟨(Nat.le_of_ble_eq_true rfl), (Nat.le_of_ble_eq_true rfl)⟩ ⟨(Nat.le_of_ble_eq_true rfl), (Nat.le_of_ble_eq_true rfl)⟩ dX10_session_7 (fun  u9 H locs hp9 hw => ?_)
  obtain rfl := hp9
  have hw : Wd G s A [(qx, .inr (9, [.ref qt, .ref qs, .ref qd, .ref qa, .ref qb, .ref qh, .ref qr, .ref qe, .ref qp, .ref qf, .ref qn, .ref qi, .ref qw, .int qx_toldAny, .int qx_lastFault, .int qx_lastMoved, .int qx_lastScratched])), (qt_keyCodes, eJ G 27 qt_keyCodes_c), (qt_bytes, eB G 940 qt_bytes_c), (qs, .inr (4, [.int qs_slides, .int qs_hearers, .int qs_nears, .int qs_lines, .int qs_pass, .int qs_spread, .int qs_lamp, .int qs_behind, .int qs_settingsTold, .ref qs_slideNames, .ref qs_pictures, .ref qs_heats, .ref qs_after, .ref qs_hearerNames, .ref qs_needs, .ref qs_likes, .ref qs_hates, .ref qs_near])), (qs_slideNames, eJ G 6 qs_slideNames_c), (qs_pictures, eI G 6 qs_pictures_c), (qs_heats, eI G 6 qs_heats_c), (qs_after, eI G 6 qs_after_c), (qs_hearerNames, eJ G 8 qs_hearerNames_c), (qs_needs, eI G 8 qs_needs_c), (qs_likes, eI G 8 qs_likes_c), (qs_hates, eI G 8 qs_hates_c), (qs_near, eI G 8 qs_near_c), (qd, .inr (4, [.int qd_slides, .int qd_hearers, .int qd_nears, .int qd_lines, .int qd_pass, .int qd_spread, .int qd_lamp, .int qd_behind, .int qd_settingsTold, .ref qd_slideNames, .ref qd_pictures, .ref qd_heats, .ref qd_after, .ref qd_hearerNames, .ref qd_needs, .ref qd_likes, .ref qd_hates, .ref qd_near])), (qd_slideNames, eJ G 6 qd_slideNames_c), (qd_pictures, eI G 6 qd_pictures_c), (qd_heats, eI G 6 qd_heats_c), (qd_after, eI G 6 qd_after_c), (qd_hearerNames, eJ G 8 qd_hearerNames_c), (qd_needs, eI G 8 qd_needs_c), (qd_likes, eI G 8 qd_likes_c), (qd_hates, eI G 8 qd_hates_c), (qd_near, eI G 8 qd_near_c), (qa, .inr (7, [.int qa_hour, .int qa_heat, .int qa_black, .int qa_so, .int qa_cracked, .int qa_behind, .int qa_allSighs, .int qa_seed, .ref qa_pictures, .ref qa_shown, .ref qa_sighed])), (qa_pictures, eI G 6 qa_pictures_c), (qa_shown, eI G 6 qa_shown_c), (qa_sighed, eI G 8 qa_sighed_c), (qh, .inr (2, [.ref qh_kept, .int qh_first, .int qh_size])), (qr, .inr (6, [.int qr_there, .int qr_ones, .int qr_parts, .ref qr_keys, .ref qr_signs, .ref qr_numbers, .ref qr_stack])), (qt, .inr (8, [.ref qt_keyCodes, .ref qt_bytes, .int qt_size, .int 900, .int 0, .int qt_kind, .int qt_place, .int qt_value, .long qt_code, .int qt_key, .int 0, .int 0]))] H _ := hw
  refine lv_aload_n C.1 C.2.1 dX10_session_10 rfl (lv_at hl 0 rfl) ?_
  refine x_get C hw iwX10 9 rfl 0 rfl 2 (by decide) kw448 rfl dX10_session_11 ?_
  refine lv_aload_n C.1 C.2.1 dX10_session_14 rfl (lv_at hl 0 rfl) ?_
  refine x_get C hw iwX10 9 rfl 0 rfl 0 (by decide) kw446 rfl dX10_session_15 ?_
  refine x_calliV (As := [.ref qt]) (rest := []) (wr := [(qx, .inr (9, [.ref qt, .ref qs, .ref qd, .ref qa, .ref qb, .ref qh, .ref qr, .ref qe, .ref qp, .ref qf, .ref qn, .ref qi, .ref qw, .int qx_toldAny, .int qx_lastFault, .int qx_lastMoved, .int qx_lastScratched])), (qs, .inr (4, [.int qs_slides, .int qs_hearers, .int qs_nears, .int qs_lines, .int qs_pass, .int qs_spread, .int qs_lamp, .int qs_behind, .int qs_settingsTold, .ref qs_slideNames, .ref qs_pictures, .ref qs_heats, .ref qs_after, .ref qs_hearerNames, .ref qs_needs, .ref qs_likes, .ref qs_hates, .ref qs_near])), (qs_slideNames, eJ G 6 qs_slideNames_c), (qs_pictures, eI G 6 qs_pictures_c), (qs_heats, eI G 6 qs_heats_c), (qs_after, eI G 6 qs_after_c), (qs_hearerNames, eJ G 8 qs_hearerNames_c), (qs_needs, eI G 8 qs_needs_c), (qs_likes, eI G 8 qs_likes_c), (qs_hates, eI G 8 qs_hates_c), (qs_near, eI G 8 qs_near_c), (qa, .inr (7, [.int qa_hour, .int qa_heat, .int qa_black, .int qa_so, .int qa_cracked, .int qa_behind, .int qa_allSighs, .int qa_seed, .ref qa_pictures, .ref qa_shown, .ref qa_sighed])), (qa_pictures, eI G 6 qa_pictures_c), (qa_shown, eI G 6 qa_shown_c), (qa_sighed, eI G 8 qa_sighed_c), (qh, .inr (2, [.ref qh_kept, .int qh_first, .int qh_size])), (qr, .inr (6, [.int qr_there, .int qr_ones, .int qr_parts, .ref qr_keys, .ref qr_signs, .ref qr_numbers, .ref qr_stack]))]) C hw (s_X5_read qd qt qd_slides qd_hearers qd_nears qd_lines qd_pass qd_spread qd_lamp qd_behind qd_settingsTold qd_slideNames qd_pictures qd_heats qd_after qd_hearerNames qd_needs qd_likes qd_hates qd_near qd_slideNames_c qd_pictures_c qd_heats_c qd_after_c qd_hearerNames_c qd_needs_c qd_likes_c qd_hates_c qd_near_c qt_keyCodes qt_bytes qt_size 900 0 qt_kind qt_place qt_value qt_code qt_key 0 0 qt_keyCodes_c qt_bytes_c (by omega) (by omega) hf_qd_after_c (by omega)) mwX5_read kw518 [13, 14, 15, 16, 17, 18, 19, 20, 21, 22, 29, 1, 2] [0, 3, 4, 5, 6, 7, 8, 9, 10, 11, 12, 23, 24, 25, 26, 27, 28] rfl rfl rfl rfl (by decide) 0 rfl rfl rfl rfl hl.1 rfl (Nat.le_of_ble_eq_true rfl) ⟨(Nat.le_of_ble_eq_true rfl), (Nat.le_of_ble_eq_true rfl)⟩ ⟨(Nat.le_of_ble_eq_true rfl), (Nat.le_of_ble_eq_true rfl)⟩ dX10_session_18 (fun r1 u9 H locs hp9 hw => ?_)
  rcases hp9 with ⟨x2, x3, x4, x5, x6, x7, x8, x9, x10, x11, x12, x13, x14, x15, x16, x17, x18, x19, x20, x21, x22, x23, x24, x25, x26, x27, rfl, rfl, hf28, hf29, hf30, hf31⟩ | ⟨x32, x33, x34, x35, x36, x37, x38, x39, x40, x41, x42, x43, x44, x45, x46, x47, x48, x49, x50, x51, x52, x53, x54, x55, x56, x57, rfl, rfl, hf58, hf59, hf60, hf61, hf62⟩
  · skip
    have hw : Wd G s A [(qx, .inr (9, [.ref qt, .ref qs, .ref qd, .ref qa, .ref qb, .ref qh, .ref qr, .ref qe, .ref qp, .ref qf, .ref qn, .ref qi, .ref qw, .int qx_toldAny, .int qx_lastFault, .int qx_lastMoved, .int qx_lastScratched])), (qs, .inr (4, [.int qs_slides, .int qs_hearers, .int qs_nears, .int qs_lines, .int qs_pass, .int qs_spread, .int qs_lamp, .int qs_behind, .int qs_settingsTold, .ref qs_slideNames, .ref qs_pictures, .ref qs_heats, .ref qs_after, .ref qs_hearerNames, .ref qs_needs, .ref qs_likes, .ref qs_hates, .ref qs_near])), (qs_slideNames, eJ G 6 qs_slideNames_c), (qs_pictures, eI G 6 qs_pictures_c), (qs_heats, eI G 6 qs_heats_c), (qs_after, eI G 6 qs_after_c), (qs_hearerNames, eJ G 8 qs_hearerNames_c), (qs_needs, eI G 8 qs_needs_c), (qs_likes, eI G 8 qs_likes_c), (qs_hates, eI G 8 qs_hates_c), (qs_near, eI G 8 qs_near_c), (qa, .inr (7, [.int qa_hour, .int qa_heat, .int qa_black, .int qa_so, .int qa_cracked, .int qa_behind, .int qa_allSighs, .int qa_seed, .ref qa_pictures, .ref qa_shown, .ref qa_sighed])), (qa_pictures, eI G 6 qa_pictures_c), (qa_shown, eI G 6 qa_shown_c), (qa_sighed, eI G 8 qa_sighed_c), (qh, .inr (2, [.ref qh_kept, .int qh_first, .int qh_size])), (qr, .inr (6, [.int qr_there, .int qr_ones, .int qr_parts, .ref qr_keys, .ref qr_signs, .ref qr_numbers, .ref qr_stack])), (qd, .inr (4, [.int x2, .int x3, .int x4, .int x5, .int x6, .int x7, .int x8, .int x9, .int x10, .ref qd_slideNames, .ref qd_pictures, .ref qd_heats, .ref qd_after, .ref qd_hearerNames, .ref qd_needs, .ref qd_likes, .ref qd_hates, .ref qd_near])), (qd_slideNames, eJ G 6 x11), (qd_pictures, eI G 6 x12), (qd_heats, eI G 6 x13), (qd_after, eI G 6 x14), (qd_hearerNames, eJ G 8 x15), (qd_needs, eI G 8 x16), (qd_likes, eI G 8 x17), (qd_hates, eI G 8 x18), (qd_near, eI G 8 x19), (qt, .inr (8, [.ref qt_keyCodes, .ref qt_bytes, .int qt_size, .int 900, .int x20, .int x21, .int x22, .int x23, .long x24, .int x25, .int x26, .int x27])), (qt_keyCodes, eJ G 27 qt_keyCodes_c), (qt_bytes, eB G 940 qt_bytes_c)] H _ := hw
    refine lv_istore_n (lv' := [(1, .int 0), (0, .ref qx)]) C.1 C.2.1 dX10_session_21 rfl hl (by decide) rfl (fun ls hl => ?_)
    refine lv_aload_n C.1 C.2.1 dX10_session_22 rfl (lv_at hl 1 rfl) ?_
    refine x_callvV (As := []) (rest := []) (wr := [(qs, .inr (4, [.int qs_slides, .int qs_hearers, .int qs_nears, .int qs_lines, .int qs_pass, .int qs_spread, .int qs_lamp, .int qs_behind, .int qs_settingsTold, .ref qs_slideNames, .ref qs_pictures, .ref qs_heats, .ref qs_after, .ref qs_hearerNames, .ref qs_needs, .ref qs_likes, .ref qs_hates, .ref qs_near])), (qs_slideNames, eJ G 6 qs_slideNames_c), (qs_pictures, eI G 6 qs_pictures_c), (qs_heats, eI G 6 qs_heats_c), (qs_after, eI G 6 qs_after_c), (qs_hearerNames, eJ G 8 qs_hearerNames_c), (qs_needs, eI G 8 qs_needs_c), (qs_likes, eI G 8 qs_likes_c), (qs_hates, eI G 8 qs_hates_c), (qs_near, eI G 8 qs_near_c), (qa, .inr (7, [.int qa_hour, .int qa_heat, .int qa_black, .int qa_so, .int qa_cracked, .int qa_behind, .int qa_allSighs, .int qa_seed, .ref qa_pictures, .ref qa_shown, .ref qa_sighed])), (qa_pictures, eI G 6 qa_pictures_c), (qa_shown, eI G 6 qa_shown_c), (qa_sighed, eI G 8 qa_sighed_c), (qh, .inr (2, [.ref qh_kept, .int qh_first, .int qh_size])), (qr, .inr (6, [.int qr_there, .int qr_ones, .int qr_parts, .ref qr_keys, .ref qr_signs, .ref qr_numbers, .ref qr_stack])), (qd, .inr (4, [.int x2, .int x3, .int x4, .int x5, .int x6, .int x7, .int x8, .int x9, .int x10, .ref qd_slideNames, .ref qd_pictures, .ref qd_heats, .ref qd_after, .ref qd_hearerNames, .ref qd_needs, .ref qd_likes, .ref qd_hates, .ref qd_near])), (qd_slideNames, eJ G 6 x11), (qd_pictures, eI G 6 x12), (qd_heats, eI G 6 x13), (qd_after, eI G 6 x14), (qd_hearerNames, eJ G 8 x15), (qd_needs, eI G 8 x16), (qd_likes, eI G 8 x17), (qd_hates, eI G 8 x18), (qd_near, eI G 8 x19), (qt_keyCodes, eJ G 27 qt_keyCodes_c), (qt_bytes, eB G 940 qt_bytes_c)]) C hw (s_X10_closeText qx qt qs qd qa qb qh qr qe qp qf qn qi qw qx_toldAny qx_lastFault qx_lastMoved qx_lastScratched qt_keyCodes qt_bytes qt_size 900 x20 x21 x22 x23 x24 x25 x26 x27) mwX10_closeText kw622 [0, 27] [1, 2, 3, 4, 5, 6, 7, 8, 9, 10, 11, 12, 13, 14, 15, 16, 17, 18, 19, 20, 21, 22, 23, 24, 25, 26, 28, 29] rfl rfl rfl rfl (by decide) 0 rfl rfl rfl rfl hl.1 rfl (Nat.le_of_ble_eq_true rfl) ⟨(Nat.le_of_ble_eq_true rfl), (Nat.le_of_ble_eq_true rfl)⟩ ⟨(Nat.le_of_ble_eq_true rfl), (Nat.le_of_ble_eq_true rfl)⟩ dX10_session_23 (fun  u9 H locs hp9 hw => ?_)
    obtain rfl := hp9
    have hw : Wd G s A [(qs, .inr (4, [.int qs_slides, .int qs_hearers, .int qs_nears, .int qs_lines, .int qs_pass, .int qs_spread, .int qs_lamp, .int qs_behind, .int qs_settingsTold, .ref qs_slideNames, .ref qs_pictures, .ref qs_heats, .ref qs_after, .ref qs_hearerNames, .ref qs_needs, .ref qs_likes, .ref qs_hates, .ref qs_near])), (qs_slideNames, eJ G 6 qs_slideNames_c), (qs_pictures, eI G 6 qs_pictures_c), (qs_heats, eI G 6 qs_heats_c), (qs_after, eI G 6 qs_after_c), (qs_hearerNames, eJ G 8 qs_hearerNames_c), (qs_needs, eI G 8 qs_needs_c), (qs_likes, eI G 8 qs_likes_c), (qs_hates, eI G 8 qs_hates_c), (qs_near, eI G 8 qs_near_c), (qa, .inr (7, [.int qa_hour, .int qa_heat, .int qa_black, .int qa_so, .int qa_cracked, .int qa_behind, .int qa_allSighs, .int qa_seed, .ref qa_pictures, .ref qa_shown, .ref qa_sighed])), (qa_pictures, eI G 6 qa_pictures_c), (qa_shown, eI G 6 qa_shown_c), (qa_sighed, eI G 8 qa_sighed_c), (qh, .inr (2, [.ref qh_kept, .int qh_first, .int qh_size])), (qr, .inr (6, [.int qr_there, .int qr_ones, .int qr_parts, .ref qr_keys, .ref qr_signs, .ref qr_numbers, .ref qr_stack])), (qd, .inr (4, [.int x2, .int x3, .int x4, .int x5, .int x6, .int x7, .int x8, .int x9, .int x10, .ref qd_slideNames, .ref qd_pictures, .ref qd_heats, .ref qd_after, .ref qd_hearerNames, .ref qd_needs, .ref qd_likes, .ref qd_hates, .ref qd_near])), (qd_slideNames, eJ G 6 x11), (qd_pictures, eI G 6 x12), (qd_heats, eI G 6 x13), (qd_after, eI G 6 x14), (qd_hearerNames, eJ G 8 x15), (qd_needs, eI G 8 x16), (qd_likes, eI G 8 x17), (qd_hates, eI G 8 x18), (qd_near, eI G 8 x19), (qt_keyCodes, eJ G 27 qt_keyCodes_c), (qt_bytes, eB G 940 qt_bytes_c), (qx, .inr (9, [.ref qt, .ref qs, .ref qd, .ref qa, .ref qb, .ref qh, .ref qr, .ref qe, .ref qp, .ref qf, .ref qn, .ref qi, .ref qw, .int qx_toldAny, .int x26, .int qx_lastMoved, .int qx_lastScratched])), (qt, .inr (8, [.ref qt_keyCodes, .ref qt_bytes, .int 0, .int 900, .int x20, .int x21, .int x22, .int x23, .long x24, .int x25, .int x26, .int x27]))] H _ := hw
    refine lv_iload_n C.1 C.2.1 dX10_session_26 rfl (lv_at hl 0 rfl) ?_
    refine lv_if_ne (tgt := 40) C.1 C.2.1 dX10_session_27 (by decide) (fun h9 => absurd (by decide) h9) (fun _ => ?_)
    refine lv_iconst (v := (-1)) C.1 C.2.1 dX10_session_30 (by decide) ?_
    refine lv_aload_n C.1 C.2.1 dX10_session_31 rfl (lv_at hl 1 rfl) ?_
    refine x_get C hw iwX10 9 rfl 28 rfl 0 (by decide) kw446 rfl dX10_session_32 ?_
    refine x_get C hw iwX9 8 rfl 29 rfl 11 (by decide) kw112 rfl dX10_session_35 ?_
    refine lv_isub C.1 C.2.1 dX10_session_38 (x_gen (fun v63 => ?_))
    have hw := hw.sub (w' := [(qx, .inr (9, [.ref qt, .ref qs, .ref qd, .ref qa, .ref qb, .ref qh, .ref qr, .ref qe, .ref qp, .ref qf, .ref qn, .ref qi, .ref qw, .int qx_toldAny, .int x26, .int qx_lastMoved, .int qx_lastScratched])), (qt, .inr (8, [.ref qt_keyCodes, .ref qt_bytes, .int 0, .int 900, .int x20, .int x21, .int x22, .int x23, .long x24, .int x25, .int x26, .int x27])), (qt_keyCodes, eJ G 27 qt_keyCodes_c), (qt_bytes, eB G 940 qt_bytes_c), (qs, .inr (4, [.int qs_slides, .int qs_hearers, .int qs_nears, .int qs_lines, .int qs_pass, .int qs_spread, .int qs_lamp, .int qs_behind, .int qs_settingsTold, .ref qs_slideNames, .ref qs_pictures, .ref qs_heats, .ref qs_after, .ref qs_hearerNames, .ref qs_needs, .ref qs_likes, .ref qs_hates, .ref qs_near])), (qs_slideNames, eJ G 6 qs_slideNames_c), (qs_pictures, eI G 6 qs_pictures_c), (qs_heats, eI G 6 qs_heats_c), (qs_after, eI G 6 qs_after_c), (qs_hearerNames, eJ G 8 qs_hearerNames_c), (qs_needs, eI G 8 qs_needs_c), (qs_likes, eI G 8 qs_likes_c), (qs_hates, eI G 8 qs_hates_c), (qs_near, eI G 8 qs_near_c), (qd, .inr (4, [.int x2, .int x3, .int x4, .int x5, .int x6, .int x7, .int x8, .int x9, .int x10, .ref qd_slideNames, .ref qd_pictures, .ref qd_heats, .ref qd_after, .ref qd_hearerNames, .ref qd_needs, .ref qd_likes, .ref qd_hates, .ref qd_near])), (qd_slideNames, eJ G 6 x11), (qd_pictures, eI G 6 x12), (qd_heats, eI G 6 x13), (qd_after, eI G 6 x14), (qd_hearerNames, eJ G 8 x15), (qd_needs, eI G 8 x16), (qd_likes, eI G 8 x17), (qd_hates, eI G 8 x18), (qd_near, eI G 8 x19), (qa, .inr (7, [.int qa_hour, .int qa_heat, .int qa_black, .int qa_so, .int qa_cracked, .int qa_behind, .int qa_allSighs, .int qa_seed, .ref qa_pictures, .ref qa_shown, .ref qa_sighed])), (qa_pictures, eI G 6 qa_pictures_c), (qa_shown, eI G 6 qa_shown_c), (qa_sighed, eI G 8 qa_sighed_c), (qh, .inr (2, [.ref qh_kept, .int qh_first, .int qh_size])), (qr, .inr (6, [.int qr_there, .int qr_ones, .int qr_parts, .ref qr_keys, .ref qr_signs, .ref qr_numbers, .ref qr_stack]))]) [28, 29, 26, 27, 0, 1, 2, 3, 4, 5, 6, 7, 8, 9, 16, 17, 18, 19, 20, 21, 22, 23, 24, 25, 10, 11, 12, 13, 14, 15] rfl rfl
    exact x_retiQ hQ B hw ⟨x26, x20, x21, x22, x23, x24, x25, x26, x27, qs_slides, qs_hearers, qs_nears, qs_lines, qs_pass, qs_spread, qs_lamp, qs_behind, qs_slideNames_c, qs_pictures_c, qs_heats_c, qs_after_c, qs_hearerNames_c, qs_needs_c, qs_likes_c, qs_hates_c, qs_near_c, x2, x3, x4, x5, x6, x7, x8, x9, x10, x11, x12, x13, x14, x15, x16, x17, x18, x19, qa_hour, qa_heat, qa_black, qa_so, qa_cracked, qa_behind, qa_allSighs, qa_pictures_c, qa_shown_c, qa_sighed_c, qh_size, qr_there, v63, rfl, rfl, (by omega), (by omega), (by omega), (by omega), (by omega), (by omega), (by omega), (by omega), hf_qs_after_c, hf31⟩ (Nat.le_of_ble_eq_true rfl) (Nat.le_of_ble_eq_true rfl) dX10_session_39
  · skip
    have hw : Wd G s A [(qx, .inr (9, [.ref qt, .ref qs, .ref qd, .ref qa, .ref qb, .ref qh, .ref qr, .ref qe, .ref qp, .ref qf, .ref qn, .ref qi, .ref qw, .int qx_toldAny, .int qx_lastFault, .int qx_lastMoved, .int qx_lastScratched])), (qs, .inr (4, [.int qs_slides, .int qs_hearers, .int qs_nears, .int qs_lines, .int qs_pass, .int qs_spread, .int qs_lamp, .int qs_behind, .int qs_settingsTold, .ref qs_slideNames, .ref qs_pictures, .ref qs_heats, .ref qs_after, .ref qs_hearerNames, .ref qs_needs, .ref qs_likes, .ref qs_hates, .ref qs_near])), (qs_slideNames, eJ G 6 qs_slideNames_c), (qs_pictures, eI G 6 qs_pictures_c), (qs_heats, eI G 6 qs_heats_c), (qs_after, eI G 6 qs_after_c), (qs_hearerNames, eJ G 8 qs_hearerNames_c), (qs_needs, eI G 8 qs_needs_c), (qs_likes, eI G 8 qs_likes_c), (qs_hates, eI G 8 qs_hates_c), (qs_near, eI G 8 qs_near_c), (qa, .inr (7, [.int qa_hour, .int qa_heat, .int qa_black, .int qa_so, .int qa_cracked, .int qa_behind, .int qa_allSighs, .int qa_seed, .ref qa_pictures, .ref qa_shown, .ref qa_sighed])), (qa_pictures, eI G 6 qa_pictures_c), (qa_shown, eI G 6 qa_shown_c), (qa_sighed, eI G 8 qa_sighed_c), (qh, .inr (2, [.ref qh_kept, .int qh_first, .int qh_size])), (qr, .inr (6, [.int qr_there, .int qr_ones, .int qr_parts, .ref qr_keys, .ref qr_signs, .ref qr_numbers, .ref qr_stack])), (qd, .inr (4, [.int x32, .int x33, .int x34, .int x35, .int x36, .int x37, .int x38, .int x39, .int x40, .ref qd_slideNames, .ref qd_pictures, .ref qd_heats, .ref qd_after, .ref qd_hearerNames, .ref qd_needs, .ref qd_likes, .ref qd_hates, .ref qd_near])), (qd_slideNames, eJ G 6 x41), (qd_pictures, eI G 6 x42), (qd_heats, eI G 6 x43), (qd_after, eI G 6 x44), (qd_hearerNames, eJ G 8 x45), (qd_needs, eI G 8 x46), (qd_likes, eI G 8 x47), (qd_hates, eI G 8 x48), (qd_near, eI G 8 x49), (qt, .inr (8, [.ref qt_keyCodes, .ref qt_bytes, .int qt_size, .int 900, .int x50, .int x51, .int x52, .int x53, .long x54, .int x55, .int x56, .int x57])), (qt_keyCodes, eJ G 27 qt_keyCodes_c), (qt_bytes, eB G 940 qt_bytes_c)] H _ := hw
    refine lv_istore_n (lv' := [(1, .int 1), (0, .ref qx)]) C.1 C.2.1 dX10_session_21 rfl hl (by decide) rfl (fun ls hl => ?_)
    refine lv_aload_n C.1 C.2.1 dX10_session_22 rfl (lv_at hl 1 rfl) ?_
    refine x_callvV (As := []) (rest := []) (wr := [(qs, .inr (4, [.int qs_slides, .int qs_hearers, .int qs_nears, .int qs_lines, .int qs_pass, .int qs_spread, .int qs_lamp, .int qs_behind, .int qs_settingsTold, .ref qs_slideNames, .ref qs_pictures, .ref qs_heats, .ref qs_after, .ref qs_hearerNames, .ref qs_needs, .ref qs_likes, .ref qs_hates, .ref qs_near])), (qs_slideNames, eJ G 6 qs_slideNames_c), (qs_pictures, eI G 6 qs_pictures_c), (qs_heats, eI G 6 qs_heats_c), (qs_after, eI G 6 qs_after_c), (qs_hearerNames, eJ G 8 qs_hearerNames_c), (qs_needs, eI G 8 qs_needs_c), (qs_likes, eI G 8 qs_likes_c), (qs_hates, eI G 8 qs_hates_c), (qs_near, eI G 8 qs_near_c), (qa, .inr (7, [.int qa_hour, .int qa_heat, .int qa_black, .int qa_so, .int qa_cracked, .int qa_behind, .int qa_allSighs, .int qa_seed, .ref qa_pictures, .ref qa_shown, .ref qa_sighed])), (qa_pictures, eI G 6 qa_pictures_c), (qa_shown, eI G 6 qa_shown_c), (qa_sighed, eI G 8 qa_sighed_c), (qh, .inr (2, [.ref qh_kept, .int qh_first, .int qh_size])), (qr, .inr (6, [.int qr_there, .int qr_ones, .int qr_parts, .ref qr_keys, .ref qr_signs, .ref qr_numbers, .ref qr_stack])), (qd, .inr (4, [.int x32, .int x33, .int x34, .int x35, .int x36, .int x37, .int x38, .int x39, .int x40, .ref qd_slideNames, .ref qd_pictures, .ref qd_heats, .ref qd_after, .ref qd_hearerNames, .ref qd_needs, .ref qd_likes, .ref qd_hates, .ref qd_near])), (qd_slideNames, eJ G 6 x41), (qd_pictures, eI G 6 x42), (qd_heats, eI G 6 x43), (qd_after, eI G 6 x44), (qd_hearerNames, eJ G 8 x45), (qd_needs, eI G 8 x46), (qd_likes, eI G 8 x47), (qd_hates, eI G 8 x48), (qd_near, eI G 8 x49), (qt_keyCodes, eJ G 27 qt_keyCodes_c), (qt_bytes, eB G 940 qt_bytes_c)]) C hw (s_X10_closeText qx qt qs qd qa qb qh qr qe qp qf qn qi qw qx_toldAny qx_lastFault qx_lastMoved qx_lastScratched qt_keyCodes qt_bytes qt_size 900 x50 x51 x52 x53 x54 x55 x56 x57) mwX10_closeText kw622 [0, 27] [1, 2, 3, 4, 5, 6, 7, 8, 9, 10, 11, 12, 13, 14, 15, 16, 17, 18, 19, 20, 21, 22, 23, 24, 25, 26, 28, 29] rfl rfl rfl rfl (by decide) 0 rfl rfl rfl rfl hl.1 rfl (Nat.le_of_ble_eq_true rfl) ⟨(Nat.le_of_ble_eq_true rfl), (Nat.le_of_ble_eq_true rfl)⟩ ⟨(Nat.le_of_ble_eq_true rfl), (Nat.le_of_ble_eq_true rfl)⟩ dX10_session_23 (fun  u9 H locs hp9 hw => ?_)
    obtain rfl := hp9
    have hw : Wd G s A [(qs, .inr (4, [.int qs_slides, .int qs_hearers, .int qs_nears, .int qs_lines, .int qs_pass, .int qs_spread, .int qs_lamp, .int qs_behind, .int qs_settingsTold, .ref qs_slideNames, .ref qs_pictures, .ref qs_heats, .ref qs_after, .ref qs_hearerNames, .ref qs_needs, .ref qs_likes, .ref qs_hates, .ref qs_near])), (qs_slideNames, eJ G 6 qs_slideNames_c), (qs_pictures, eI G 6 qs_pictures_c), (qs_heats, eI G 6 qs_heats_c), (qs_after, eI G 6 qs_after_c), (qs_hearerNames, eJ G 8 qs_hearerNames_c), (qs_needs, eI G 8 qs_needs_c), (qs_likes, eI G 8 qs_likes_c), (qs_hates, eI G 8 qs_hates_c), (qs_near, eI G 8 qs_near_c), (qa, .inr (7, [.int qa_hour, .int qa_heat, .int qa_black, .int qa_so, .int qa_cracked, .int qa_behind, .int qa_allSighs, .int qa_seed, .ref qa_pictures, .ref qa_shown, .ref qa_sighed])), (qa_pictures, eI G 6 qa_pictures_c), (qa_shown, eI G 6 qa_shown_c), (qa_sighed, eI G 8 qa_sighed_c), (qh, .inr (2, [.ref qh_kept, .int qh_first, .int qh_size])), (qr, .inr (6, [.int qr_there, .int qr_ones, .int qr_parts, .ref qr_keys, .ref qr_signs, .ref qr_numbers, .ref qr_stack])), (qd, .inr (4, [.int x32, .int x33, .int x34, .int x35, .int x36, .int x37, .int x38, .int x39, .int x40, .ref qd_slideNames, .ref qd_pictures, .ref qd_heats, .ref qd_after, .ref qd_hearerNames, .ref qd_needs, .ref qd_likes, .ref qd_hates, .ref qd_near])), (qd_slideNames, eJ G 6 x41), (qd_pictures, eI G 6 x42), (qd_heats, eI G 6 x43), (qd_after, eI G 6 x44), (qd_hearerNames, eJ G 8 x45), (qd_needs, eI G 8 x46), (qd_likes, eI G 8 x47), (qd_hates, eI G 8 x48), (qd_near, eI G 8 x49), (qt_keyCodes, eJ G 27 qt_keyCodes_c), (qt_bytes, eB G 940 qt_bytes_c), (qx, .inr (9, [.ref qt, .ref qs, .ref qd, .ref qa, .ref qb, .ref qh, .ref qr, .ref qe, .ref qp, .ref qf, .ref qn, .ref qi, .ref qw, .int qx_toldAny, .int x56, .int qx_lastMoved, .int qx_lastScratched])), (qt, .inr (8, [.ref qt_keyCodes, .ref qt_bytes, .int 0, .int 900, .int x50, .int x51, .int x52, .int x53, .long x54, .int x55, .int x56, .int x57]))] H _ := hw
    refine lv_iload_n C.1 C.2.1 dX10_session_26 rfl (lv_at hl 0 rfl) ?_
    refine lv_if_ne (tgt := 40) C.1 C.2.1 dX10_session_27 (by decide) (fun _ => ?_) (fun h9 => absurd h9 (by decide))
    refine lv_aload_n C.1 C.2.1 dX10_session_40 rfl (lv_at hl 1 rfl) ?_
    refine x_get C hw iwX10 9 rfl 28 rfl 1 (by decide) kw447 rfl dX10_session_41 ?_
    refine lv_aload_n C.1 C.2.1 dX10_session_44 rfl (lv_at hl 1 rfl) ?_
    refine x_get C hw iwX10 9 rfl 28 rfl 2 (by decide) kw448 rfl dX10_session_45 ?_
    refine x_callvV (As := [.ref qd]) (rest := []) (wr := [(qa, .inr (7, [.int qa_hour, .int qa_heat, .int qa_black, .int qa_so, .int qa_cracked, .int qa_behind, .int qa_allSighs, .int qa_seed, .ref qa_pictures, .ref qa_shown, .ref qa_sighed])), (qa_pictures, eI G 6 qa_pictures_c), (qa_shown, eI G 6 qa_shown_c), (qa_sighed, eI G 8 qa_sighed_c), (qh, .inr (2, [.ref qh_kept, .int qh_first, .int qh_size])), (qr, .inr (6, [.int qr_there, .int qr_ones, .int qr_parts, .ref qr_keys, .ref qr_signs, .ref qr_numbers, .ref qr_stack])), (qt_keyCodes, eJ G 27 qt_keyCodes_c), (qt_bytes, eB G 940 qt_bytes_c), (qx, .inr (9, [.ref qt, .ref qs, .ref qd, .ref qa, .ref qb, .ref qh, .ref qr, .ref qe, .ref qp, .ref qf, .ref qn, .ref qi, .ref qw, .int qx_toldAny, .int x56, .int qx_lastMoved, .int qx_lastScratched])), (qt, .inr (8, [.ref qt_keyCodes, .ref qt_bytes, .int 0, .int 900, .int x50, .int x51, .int x52, .int x53, .long x54, .int x55, .int x56, .int x57]))]) C hw (s_X5_copyFrom qs qd qs_slides qs_hearers qs_nears qs_lines qs_pass qs_spread qs_lamp qs_behind qs_settingsTold qs_slideNames qs_pictures qs_heats qs_after qs_hearerNames qs_needs qs_likes qs_hates qs_near qs_slideNames_c qs_pictures_c qs_heats_c qs_after_c qs_hearerNames_c qs_needs_c qs_likes_c qs_hates_c qs_near_c x32 x33 x34 x35 x36 x37 x38 x39 x40 qd_slideNames qd_pictures qd_heats qd_after qd_hearerNames qd_needs qd_likes qd_hates qd_near x41 x42 x43 x44 x45 x46 x47 x48 x49 hf_qs_after_c (by omega) (by omega) hf62) mwX5_copyFrom kw626 [0, 1, 2, 3, 4, 5, 6, 7, 8, 9, 16, 17, 18, 19, 20, 21, 22, 23, 24, 25] [10, 11, 12, 13, 14, 15, 26, 27, 28, 29] rfl rfl rfl rfl (by decide) 0 rfl rfl rfl rfl hl.1 rfl (Nat.le_of_ble_eq_true rfl) ⟨(Nat.le_of_ble_eq_true rfl), (Nat.le_of_ble_eq_true rfl)⟩ ⟨(Nat.le_of_ble_eq_true rfl), (Nat.le_of_ble_eq_true rfl)⟩ dX10_session_48 (fun  u9 H locs hp9 hw => ?_)
    obtain ⟨x64, x65, x66, x67, x68, x69, x70, x71, x72, rfl, hf73⟩ := hp9
    have hw : Wd G s A [(qa, .inr (7, [.int qa_hour, .int qa_heat, .int qa_black, .int qa_so, .int qa_cracked, .int qa_behind, .int qa_allSighs, .int qa_seed, .ref qa_pictures, .ref qa_shown, .ref qa_sighed])), (qa_pictures, eI G 6 qa_pictures_c), (qa_shown, eI G 6 qa_shown_c), (qa_sighed, eI G 8 qa_sighed_c), (qh, .inr (2, [.ref qh_kept, .int qh_first, .int qh_size])), (qr, .inr (6, [.int qr_there, .int qr_ones, .int qr_parts, .ref qr_keys, .ref qr_signs, .ref qr_numbers, .ref qr_stack])), (qt_keyCodes, eJ G 27 qt_keyCodes_c), (qt_bytes, eB G 940 qt_bytes_c), (qx, .inr (9, [.ref qt, .ref qs, .ref qd, .ref qa, .ref qb, .ref qh, .ref qr, .ref qe, .ref qp, .ref qf, .ref qn, .ref qi, .ref qw, .int qx_toldAny, .int x56, .int qx_lastMoved, .int qx_lastScratched])), (qt, .inr (8, [.ref qt_keyCodes, .ref qt_bytes, .int 0, .int 900, .int x50, .int x51, .int x52, .int x53, .long x54, .int x55, .int x56, .int x57])), (qs, .inr (4, [.int x32, .int x33, .int x34, .int x35, .int x36, .int x37, .int x38, .int x39, .int qs_settingsTold, .ref qs_slideNames, .ref qs_pictures, .ref qs_heats, .ref qs_after, .ref qs_hearerNames, .ref qs_needs, .ref qs_likes, .ref qs_hates, .ref qs_near])), (qs_slideNames, eJ G 6 x64), (qs_pictures, eI G 6 x65), (qs_heats, eI G 6 x66), (qs_after, eI G 6 x67), (qs_hearerNames, eJ G 8 x68), (qs_needs, eI G 8 x69), (qs_likes, eI G 8 x70), (qs_hates, eI G 8 x71), (qs_near, eI G 8 x72), (qd, .inr (4, [.int x32, .int x33, .int x34, .int x35, .int x36, .int x37, .int x38, .int x39, .int x40, .ref qd_slideNames, .ref qd_pictures, .ref qd_heats, .ref qd_after, .ref qd_hearerNames, .ref qd_needs, .ref qd_likes, .ref qd_hates, .ref qd_near])), (qd_slideNames, eJ G 6 x41), (qd_pictures, eI G 6 x42), (qd_heats, eI G 6 x43), (qd_after, eI G 6 x44), (qd_hearerNames, eJ G 8 x45), (qd_needs, eI G 8 x46), (qd_likes, eI G 8 x47), (qd_hates, eI G 8 x48), (qd_near, eI G 8 x49)] H _ := hw
    refine lv_aload_n C.1 C.2.1 dX10_session_51 rfl (lv_at hl 1 rfl) ?_
    refine x_get C hw iwX10 9 rfl 8 rfl 3 (by decide) kw449 rfl dX10_session_52 ?_
    refine lv_aload_n C.1 C.2.1 dX10_session_55 rfl (lv_at hl 1 rfl) ?_
    refine x_get C hw iwX10 9 rfl 8 rfl 1 (by decide) kw447 rfl dX10_session_56 ?_
    refine x_callvV (As := [.ref qs]) (rest := []) (wr := [(qh, .inr (2, [.ref qh_kept, .int qh_first, .int qh_size])), (qr, .inr (6, [.int qr_there, .int qr_ones, .int qr_parts, .ref qr_keys, .ref qr_signs, .ref qr_numbers, .ref qr_stack])), (qt_keyCodes, eJ G 27 qt_keyCodes_c), (qt_bytes, eB G 940 qt_bytes_c), (qx, .inr (9, [.ref qt, .ref qs, .ref qd, .ref qa, .ref qb, .ref qh, .ref qr, .ref qe, .ref qp, .ref qf, .ref qn, .ref qi, .ref qw, .int qx_toldAny, .int x56, .int qx_lastMoved, .int qx_lastScratched])), (qt, .inr (8, [.ref qt_keyCodes, .ref qt_bytes, .int 0, .int 900, .int x50, .int x51, .int x52, .int x53, .long x54, .int x55, .int x56, .int x57])), (qs_slideNames, eJ G 6 x64), (qs_heats, eI G 6 x66), (qs_after, eI G 6 x67), (qs_hearerNames, eJ G 8 x68), (qs_needs, eI G 8 x69), (qs_likes, eI G 8 x70), (qs_hates, eI G 8 x71), (qs_near, eI G 8 x72), (qd, .inr (4, [.int x32, .int x33, .int x34, .int x35, .int x36, .int x37, .int x38, .int x39, .int x40, .ref qd_slideNames, .ref qd_pictures, .ref qd_heats, .ref qd_after, .ref qd_hearerNames, .ref qd_needs, .ref qd_likes, .ref qd_hates, .ref qd_near])), (qd_slideNames, eJ G 6 x41), (qd_pictures, eI G 6 x42), (qd_heats, eI G 6 x43), (qd_after, eI G 6 x44), (qd_hearerNames, eJ G 8 x45), (qd_needs, eI G 8 x46), (qd_likes, eI G 8 x47), (qd_hates, eI G 8 x48), (qd_near, eI G 8 x49)]) C hw (s_X8_begin qa qs qa_hour qa_heat qa_black qa_so qa_cracked qa_behind qa_allSighs qa_seed qa_pictures qa_shown qa_sighed qa_pictures_c qa_shown_c qa_sighed_c x32 x33 x34 x35 x36 x37 x38 x39 qs_settingsTold qs_slideNames qs_pictures qs_heats qs_after qs_hearerNames qs_needs qs_likes qs_hates qs_near x65) mwX8_begin kw633 [0, 1, 2, 3, 10, 12] [4, 5, 6, 7, 8, 9, 11, 13, 14, 15, 16, 17, 18, 19, 20, 21, 22, 23, 24, 25, 26, 27, 28, 29] rfl rfl rfl rfl (by decide) 0 rfl rfl rfl rfl hl.1 rfl (Nat.le_of_ble_eq_true rfl) ⟨(Nat.le_of_ble_eq_true rfl), (Nat.le_of_ble_eq_true rfl)⟩ ⟨(Nat.le_of_ble_eq_true rfl), (Nat.le_of_ble_eq_true rfl)⟩ dX10_session_59 (fun  u9 H locs hp9 hw => ?_)
    obtain ⟨x74, x75, x76, rfl⟩ := hp9
    have hw : Wd G s A [(qh, .inr (2, [.ref qh_kept, .int qh_first, .int qh_size])), (qr, .inr (6, [.int qr_there, .int qr_ones, .int qr_parts, .ref qr_keys, .ref qr_signs, .ref qr_numbers, .ref qr_stack])), (qt_keyCodes, eJ G 27 qt_keyCodes_c), (qt_bytes, eB G 940 qt_bytes_c), (qx, .inr (9, [.ref qt, .ref qs, .ref qd, .ref qa, .ref qb, .ref qh, .ref qr, .ref qe, .ref qp, .ref qf, .ref qn, .ref qi, .ref qw, .int qx_toldAny, .int x56, .int qx_lastMoved, .int qx_lastScratched])), (qt, .inr (8, [.ref qt_keyCodes, .ref qt_bytes, .int 0, .int 900, .int x50, .int x51, .int x52, .int x53, .long x54, .int x55, .int x56, .int x57])), (qs_slideNames, eJ G 6 x64), (qs_heats, eI G 6 x66), (qs_after, eI G 6 x67), (qs_hearerNames, eJ G 8 x68), (qs_needs, eI G 8 x69), (qs_likes, eI G 8 x70), (qs_hates, eI G 8 x71), (qs_near, eI G 8 x72), (qd, .inr (4, [.int x32, .int x33, .int x34, .int x35, .int x36, .int x37, .int x38, .int x39, .int x40, .ref qd_slideNames, .ref qd_pictures, .ref qd_heats, .ref qd_after, .ref qd_hearerNames, .ref qd_needs, .ref qd_likes, .ref qd_hates, .ref qd_near])), (qd_slideNames, eJ G 6 x41), (qd_pictures, eI G 6 x42), (qd_heats, eI G 6 x43), (qd_after, eI G 6 x44), (qd_hearerNames, eJ G 8 x45), (qd_needs, eI G 8 x46), (qd_likes, eI G 8 x47), (qd_hates, eI G 8 x48), (qd_near, eI G 8 x49), (qa, .inr (7, [.int 0, .int 0, .int 0, .int 0, .int 0, .int x39, .int 0, .int qa_seed, .ref qa_pictures, .ref qa_shown, .ref qa_sighed])), (qa_pictures, eI G 6 x74), (qa_shown, eI G 6 x75), (qa_sighed, eI G 8 x76), (qs, .inr (4, [.int x32, .int x33, .int x34, .int x35, .int x36, .int x37, .int x38, .int x39, .int qs_settingsTold, .ref qs_slideNames, .ref qs_pictures, .ref qs_heats, .ref qs_after, .ref qs_hearerNames, .ref qs_needs, .ref qs_likes, .ref qs_hates, .ref qs_near])), (qs_pictures, eI G 6 x65)] H _ := hw
    refine lv_aload_n C.1 C.2.1 dX10_session_62 rfl (lv_at hl 1 rfl) ?_
    refine x_get C hw iwX10 9 rfl 4 rfl 6 (by decide) kw452 rfl dX10_session_63 ?_
    refine lv_iconst (v := 0) C.1 C.2.1 dX10_session_66 (by decide) ?_
    refine x_put (w' := [(qh, .inr (2, [.ref qh_kept, .int qh_first, .int qh_size])), (qr, .inr (6, [.int 0, .int qr_ones, .int qr_parts, .ref qr_keys, .ref qr_signs, .ref qr_numbers, .ref qr_stack])), (qt_keyCodes, eJ G 27 qt_keyCodes_c), (qt_bytes, eB G 940 qt_bytes_c), (qx, .inr (9, [.ref qt, .ref qs, .ref qd, .ref qa, .ref qb, .ref qh, .ref qr, .ref qe, .ref qp, .ref qf, .ref qn, .ref qi, .ref qw, .int qx_toldAny, .int x56, .int qx_lastMoved, .int qx_lastScratched])), (qt, .inr (8, [.ref qt_keyCodes, .ref qt_bytes, .int 0, .int 900, .int x50, .int x51, .int x52, .int x53, .long x54, .int x55, .int x56, .int x57])), (qs_slideNames, eJ G 6 x64), (qs_heats, eI G 6 x66), (qs_after, eI G 6 x67), (qs_hearerNames, eJ G 8 x68), (qs_needs, eI G 8 x69), (qs_likes, eI G 8 x70), (qs_hates, eI G 8 x71), (qs_near, eI G 8 x72), (qd, .inr (4, [.int x32, .int x33, .int x34, .int x35, .int x36, .int x37, .int x38, .int x39, .int x40, .ref qd_slideNames, .ref qd_pictures, .ref qd_heats, .ref qd_after, .ref qd_hearerNames, .ref qd_needs, .ref qd_likes, .ref qd_hates, .ref qd_near])), (qd_slideNames, eJ G 6 x41), (qd_pictures, eI G 6 x42), (qd_heats, eI G 6 x43), (qd_after, eI G 6 x44), (qd_hearerNames, eJ G 8 x45), (qd_needs, eI G 8 x46), (qd_likes, eI G 8 x47), (qd_hates, eI G 8 x48), (qd_near, eI G 8 x49), (qa, .inr (7, [.int 0, .int 0, .int 0, .int 0, .int 0, .int x39, .int 0, .int qa_seed, .ref qa_pictures, .ref qa_shown, .ref qa_sighed])), (qa_pictures, eI G 6 x74), (qa_shown, eI G 6 x75), (qa_sighed, eI G 8 x76), (qs, .inr (4, [.int x32, .int x33, .int x34, .int x35, .int x36, .int x37, .int x38, .int x39, .int qs_settingsTold, .ref qs_slideNames, .ref qs_pictures, .ref qs_heats, .ref qs_after, .ref qs_hearerNames, .ref qs_needs, .ref qs_likes, .ref qs_hates, .ref qs_near])), (qs_pictures, eI G 6 x65)]) C hw iwX7 tyX7_ok nmX7 6 rfl 1 rfl 0 (by decide) kw321 rfl (by first | rfl | decide) rfl (Nat.le_of_ble_eq_true rfl) rfl dX10_session_67 (fun H locs hw => ?_)
    refine lv_aload_n C.1 C.2.1 dX10_session_70 rfl (lv_at hl 1 rfl) ?_
    refine x_get C hw iwX10 9 rfl 4 rfl 5 (by decide) kw451 rfl dX10_session_71 ?_
    refine x_callvV (As := []) (rest := []) (wr := [(qr, .inr (6, [.int 0, .int qr_ones, .int qr_parts, .ref qr_keys, .ref qr_signs, .ref qr_numbers, .ref qr_stack])), (qt_keyCodes, eJ G 27 qt_keyCodes_c), (qt_bytes, eB G 940 qt_bytes_c), (qx, .inr (9, [.ref qt, .ref qs, .ref qd, .ref qa, .ref qb, .ref qh, .ref qr, .ref qe, .ref qp, .ref qf, .ref qn, .ref qi, .ref qw, .int qx_toldAny, .int x56, .int qx_lastMoved, .int qx_lastScratched])), (qt, .inr (8, [.ref qt_keyCodes, .ref qt_bytes, .int 0, .int 900, .int x50, .int x51, .int x52, .int x53, .long x54, .int x55, .int x56, .int x57])), (qs_slideNames, eJ G 6 x64), (qs_heats, eI G 6 x66), (qs_after, eI G 6 x67), (qs_hearerNames, eJ G 8 x68), (qs_needs, eI G 8 x69), (qs_likes, eI G 8 x70), (qs_hates, eI G 8 x71), (qs_near, eI G 8 x72), (qd, .inr (4, [.int x32, .int x33, .int x34, .int x35, .int x36, .int x37, .int x38, .int x39, .int x40, .ref qd_slideNames, .ref qd_pictures, .ref qd_heats, .ref qd_after, .ref qd_hearerNames, .ref qd_needs, .ref qd_likes, .ref qd_hates, .ref qd_near])), (qd_slideNames, eJ G 6 x41), (qd_pictures, eI G 6 x42), (qd_heats, eI G 6 x43), (qd_after, eI G 6 x44), (qd_hearerNames, eJ G 8 x45), (qd_needs, eI G 8 x46), (qd_likes, eI G 8 x47), (qd_hates, eI G 8 x48), (qd_near, eI G 8 x49), (qa, .inr (7, [.int 0, .int 0, .int 0, .int 0, .int 0, .int x39, .int 0, .int qa_seed, .ref qa_pictures, .ref qa_shown, .ref qa_sighed])), (qa_pictures, eI G 6 x74), (qa_shown, eI G 6 x75), (qa_sighed, eI G 8 x76), (qs, .inr (4, [.int x32, .int x33, .int x34, .int x35, .int x36, .int x37, .int x38, .int x39, .int qs_settingsTold, .ref qs_slideNames, .ref qs_pictures, .ref qs_heats, .ref qs_after, .ref qs_hearerNames, .ref qs_needs, .ref qs_likes, .ref qs_hates, .ref qs_near])), (qs_pictures, eI G 6 x65)]) C hw (s_X2_clear qh qh_kept qh_first qh_size) mwX2_clear kw637 [0] [1, 2, 3, 4, 5, 6, 7, 8, 9, 10, 11, 12, 13, 14, 15, 16, 17, 18, 19, 20, 21, 22, 23, 24, 25, 26, 27, 28, 29] rfl rfl rfl rfl (by decide) 0 rfl rfl rfl rfl hl.1 rfl (Nat.le_of_ble_eq_true rfl) ⟨(Nat.le_of_ble_eq_true rfl), (Nat.le_of_ble_eq_true rfl)⟩ ⟨(Nat.le_of_ble_eq_true rfl), (Nat.le_of_ble_eq_true rfl)⟩ dX10_session_74 (fun  u9 H locs hp9 hw => ?_)
    obtain rfl := hp9
    have hw : Wd G s A [(qr, .inr (6, [.int 0, .int qr_ones, .int qr_parts, .ref qr_keys, .ref qr_signs, .ref qr_numbers, .ref qr_stack])), (qt_keyCodes, eJ G 27 qt_keyCodes_c), (qt_bytes, eB G 940 qt_bytes_c), (qx, .inr (9, [.ref qt, .ref qs, .ref qd, .ref qa, .ref qb, .ref qh, .ref qr, .ref qe, .ref qp, .ref qf, .ref qn, .ref qi, .ref qw, .int qx_toldAny, .int x56, .int qx_lastMoved, .int qx_lastScratched])), (qt, .inr (8, [.ref qt_keyCodes, .ref qt_bytes, .int 0, .int 900, .int x50, .int x51, .int x52, .int x53, .long x54, .int x55, .int x56, .int x57])), (qs_slideNames, eJ G 6 x64), (qs_heats, eI G 6 x66), (qs_after, eI G 6 x67), (qs_hearerNames, eJ G 8 x68), (qs_needs, eI G 8 x69), (qs_likes, eI G 8 x70), (qs_hates, eI G 8 x71), (qs_near, eI G 8 x72), (qd, .inr (4, [.int x32, .int x33, .int x34, .int x35, .int x36, .int x37, .int x38, .int x39, .int x40, .ref qd_slideNames, .ref qd_pictures, .ref qd_heats, .ref qd_after, .ref qd_hearerNames, .ref qd_needs, .ref qd_likes, .ref qd_hates, .ref qd_near])), (qd_slideNames, eJ G 6 x41), (qd_pictures, eI G 6 x42), (qd_heats, eI G 6 x43), (qd_after, eI G 6 x44), (qd_hearerNames, eJ G 8 x45), (qd_needs, eI G 8 x46), (qd_likes, eI G 8 x47), (qd_hates, eI G 8 x48), (qd_near, eI G 8 x49), (qa, .inr (7, [.int 0, .int 0, .int 0, .int 0, .int 0, .int x39, .int 0, .int qa_seed, .ref qa_pictures, .ref qa_shown, .ref qa_sighed])), (qa_pictures, eI G 6 x74), (qa_shown, eI G 6 x75), (qa_sighed, eI G 8 x76), (qs, .inr (4, [.int x32, .int x33, .int x34, .int x35, .int x36, .int x37, .int x38, .int x39, .int qs_settingsTold, .ref qs_slideNames, .ref qs_pictures, .ref qs_heats, .ref qs_after, .ref qs_hearerNames, .ref qs_needs, .ref qs_likes, .ref qs_hates, .ref qs_near])), (qs_pictures, eI G 6 x65), (qh, .inr (2, [.ref qh_kept, .int qh_first, .int 0]))] H _ := hw
    refine lv_aload_n C.1 C.2.1 dX10_session_77 rfl (lv_at hl 1 rfl) ?_
    refine x_get C hw iwX10 9 rfl 3 rfl 1 (by decide) kw447 rfl dX10_session_78 ?_
    refine x_get C hw iwX5 4 rfl 27 rfl 3 (by decide) kw159 rfl dX10_session_81 ?_
    have hw := hw.sub (w' := [(qx, .inr (9, [.ref qt, .ref qs, .ref qd, .ref qa, .ref qb, .ref qh, .ref qr, .ref qe, .ref qp, .ref qf, .ref qn, .ref qi, .ref qw, .int qx_toldAny, .int x56, .int qx_lastMoved, .int qx_lastScratched])), (qt, .inr (8, [.ref qt_keyCodes, .ref qt_bytes, .int 0, .int 900, .int x50, .int x51, .int x52, .int x53, .long x54, .int x55, .int x56, .int x57])), (qt_keyCodes, eJ G 27 qt_keyCodes_c), (qt_bytes, eB G 940 qt_bytes_c), (qs, .inr (4, [.int x32, .int x33, .int x34, .int x35, .int x36, .int x37, .int x38, .int x39, .int qs_settingsTold, .ref qs_slideNames, .ref qs_pictures, .ref qs_heats, .ref qs_after, .ref qs_hearerNames, .ref qs_needs, .ref qs_likes, .ref qs_hates, .ref qs_near])), (qs_slideNames, eJ G 6 x64), (qs_pictures, eI G 6 x65), (qs_heats, eI G 6 x66), (qs_after, eI G 6 x67), (qs_hearerNames, eJ G 8 x68), (qs_needs, eI G 8 x69), (qs_likes, eI G 8 x70), (qs_hates, eI G 8 x71), (qs_near, eI G 8 x72), (qd, .inr (4, [.int x32, .int x33, .int x34, .int x35, .int x36, .int x37, .int x38, .int x39, .int x40, .ref qd_slideNames, .ref qd_pictures, .ref qd_heats, .ref qd_after, .ref qd_hearerNames, .ref qd_needs, .ref qd_likes, .ref qd_hates, .ref qd_near])), (qd_slideNames, eJ G 6 x41), (qd_pictures, eI G 6 x42), (qd_heats, eI G 6 x43), (qd_after, eI G 6 x44), (qd_hearerNames, eJ G 8 x45), (qd_needs, eI G 8 x46), (qd_likes, eI G 8 x47), (qd_hates, eI G 8 x48), (qd_near, eI G 8 x49), (qa, .inr (7, [.int 0, .int 0, .int 0, .int 0, .int 0, .int x39, .int 0, .int qa_seed, .ref qa_pictures, .ref qa_shown, .ref qa_sighed])), (qa_pictures, eI G 6 x74), (qa_shown, eI G 6 x75), (qa_sighed, eI G 8 x76), (qh, .inr (2, [.ref qh_kept, .int qh_first, .int 0])), (qr, .inr (6, [.int 0, .int qr_ones, .int qr_parts, .ref qr_keys, .ref qr_signs, .ref qr_numbers, .ref qr_stack]))]) [3, 4, 1, 2, 27, 5, 28, 6, 7, 8, 9, 10, 11, 12, 13, 14, 15, 16, 17, 18, 19, 20, 21, 22, 23, 24, 25, 26, 29, 0] rfl rfl
    exact x_retiQ hQ B hw ⟨x56, x50, x51, x52, x53, x54, x55, x56, x57, x32, x33, x34, x35, x36, x37, x38, x39, x64, x65, x66, x67, x68, x69, x70, x71, x72, x32, x33, x34, x35, x36, x37, x38, x39, x40, x41, x42, x43, x44, x45, x46, x47, x48, x49, 0, 0, 0, 0, 0, x39, 0, x74, x75, x76, 0, 0, x35, rfl, rfl, (by omega), (by omega), (by omega), (by omega), (by omega), (by decide), (by decide), (by decide), hf73, hf62⟩ (Nat.le_of_ble_eq_true rfl) (Nat.le_of_ble_eq_true rfl) dX10_session_84
theorem dX10_fault_0 : decode cX10_fault 0 = .ok (.aload_n 0, 1) := by decide +kernel
theorem dX10_fault_1 : decode cX10_fault 1 = .ok (.getfield 129, 3) := by decide +kernel
theorem dX10_fault_4 : decode cX10_fault 4 = .ok (.ireturn, 1) := by decide +kernel
set_option maxHeartbeats 4000000 in
set_option maxRecDepth 100000 in
theorem s_X10_fault {l : Launch} {G : Gc} (qx : Nat) (qt : Nat) (qs : Nat) (qd : Nat) (qa : Nat) (qb : Nat) (qh : Nat) (qr : Nat) (qe : Nat) (qp : Nat) (qf : Nat) (qn : Nat) (qi : Nat) (qw : Nat) (qx_toldAny : Int32) (qx_lastFault : Int32) (qx_lastMoved : Int32) (qx_lastScratched : Int32)  : Ci l yX10_fault cX10_fault 1 (some .int) 0 0 0 G [.ref qx] [(qx, .inr (9, [.ref qt, .ref qs, .ref qd, .ref qa, .ref qb, .ref qh, .ref qr, .ref qe, .ref qp, .ref qf, .ref qn, .ref qi, .ref qw, .int qx_toldAny, .int qx_lastFault, .int qx_lastMoved, .int qx_lastScratched]))] (fun (r9 : Int32) (u9 : va_W) => r9 = qx_lastFault ∧ u9 = [(qx, .inr (9, [.ref qt, .ref qs, .ref qd, .ref qa, .ref qb, .ref qh, .ref qr, .ref qe, .ref qp, .ref qf, .ref qn, .ref qi, .ref qw, .int qx_toldAny, .int qx_lastFault, .int qx_lastMoved, .int qx_lastScratched]))]) := by
  refine Ci.ofQ (by decide) (Nat.le_of_ble_eq_true rfl) ?_
  intro p e s m below meth c ls A args Q hQ B hw hl
  have C : CallFix p m c cX10_fault 1 s args gw "LanternState" := B.1
  have hl : lv_has ls 1 [(0, .ref qx)] := hl
  refine lv_aload_n C.1 C.2.1 dX10_fault_0 rfl (lv_at hl 0 rfl) ?_
  refine x_get C hw iwX10 9 rfl 0 rfl 14 (by decide) kw460 rfl dX10_fault_1 ?_
  exact x_retiQ hQ B hw ⟨rfl, rfl⟩ (Nat.le_of_ble_eq_true rfl) (Nat.le_of_ble_eq_true rfl) dX10_fault_4
theorem dX10_row_0 : decode cX10_row 0 = .ok (.aload_n 0, 1) := by decide +kernel
theorem dX10_row_1 : decode cX10_row 1 = .ok (.iload_n 1, 1) := by decide +kernel
theorem dX10_row_2 : decode cX10_row 2 = .ok (.invokevirtual 132, 3) := by decide +kernel
theorem mwX10_isSlide : MwV yX10_isSlide cX10_isSlide 2 (some .boolean) 1 := ⟨⟨kw652, kw1, by decide +kernel⟩, kw651, kS13⟩
theorem dX10_row_5 : decode cX10_row 5 = .ok (.ifCond .eq 25, 3) := by decide +kernel
theorem dX10_row_30 : decode cX10_row 30 = .ok (.iconst (-1), 1) := by decide +kernel
theorem dX10_row_31 : decode cX10_row 31 = .ok (.ireturn, 1) := by decide +kernel
theorem dX10_row_8 : decode cX10_row 8 = .ok (.iload_n 2, 1) := by decide +kernel
theorem dX10_row_9 : decode cX10_row 9 = .ok (.invokestatic 173, 3) := by decide +kernel
theorem mwX10_isWay : MwS yX10_isWay cX10_isWay 1 (some .boolean) 1 := ⟨⟨kw655, kw1, by decide +kernel⟩, kw654⟩
theorem dX10_row_12 : decode cX10_row 12 = .ok (.ifCond .eq 18, 3) := by decide +kernel
theorem dX10_row_15 : decode cX10_row 15 = .ok (.iload_n 3, 1) := by decide +kernel
theorem dX10_row_16 : decode cX10_row 16 = .ok (.invokestatic 176, 3) := by decide +kernel
theorem mwX10_isSeat : MwS yX10_isSeat cX10_isSeat 1 (some .boolean) 1 := ⟨⟨kw658, kw1, by decide +kernel⟩, kw657⟩
theorem dX10_row_19 : decode cX10_row 19 = .ok (.ifCond .eq 11, 3) := by decide +kernel
theorem dX10_row_22 : decode cX10_row 22 = .ok (.iload 4, 2) := by decide +kernel
theorem dX10_row_24 : decode cX10_row 24 = .ok (.invokestatic 179, 3) := by decide +kernel
theorem mwX10_isPlace : MwS yX10_isPlace cX10_isPlace 1 (some .boolean) 1 := ⟨⟨kw661, kw1, by decide +kernel⟩, kw660⟩
theorem dX10_row_27 : decode cX10_row 27 = .ok (.ifCond .ne 5, 3) := by decide +kernel
theorem dX10_row_32 : decode cX10_row 32 = .ok (.aload_n 0, 1) := by decide +kernel
theorem dX10_row_33 : decode cX10_row 33 = .ok (.getfield 29, 3) := by decide +kernel
theorem dX10_row_36 : decode cX10_row 36 = .ok (.getfield 158, 3) := by decide +kernel
theorem dX10_row_39 : decode cX10_row 39 = .ok (.iload_n 1, 1) := by decide +kernel
theorem dX10_row_40 : decode cX10_row 40 = .ok (.iaload, 1) := by decide +kernel
theorem dX10_row_41 : decode cX10_row 41 = .ok (.iload_n 2, 1) := by decide +kernel
theorem dX10_row_42 : decode cX10_row 42 = .ok (.invokestatic 182, 3) := by decide +kernel
theorem dX10_row_45 : decode cX10_row 45 = .ok (.istore 5, 2) := by decide +kernel
theorem dX10_row_47 : decode cX10_row 47 = .ok (.iload_n 3, 1) := by decide +kernel
theorem dX10_row_48 : decode cX10_row 48 = .ok (.ifCond .ne 8, 3) := by decide +kernel
theorem dX10_row_56 : decode cX10_row 56 = .ok (.iload 5, 2) := by decide +kernel
theorem dX10_row_58 : decode cX10_row 58 = .ok (.invokestatic 185, 3) := by decide +kernel
theorem dX10_row_61 : decode cX10_row 61 = .ok (.iload 4, 2) := by decide +kernel
theorem dX10_row_63 : decode cX10_row 63 = .ok (.invokestatic 167, 3) := by decide +kernel
theorem mwX4_rowOf : MwS yX4_rowOf cX4_rowOf 2 (some .int) 2 := ⟨⟨kw672, kw16, by decide +kernel⟩, kw671⟩
theorem dX10_row_66 : decode cX10_row 66 = .ok (.ireturn, 1) := by decide +kernel
theorem dX10_row_51 : decode cX10_row 51 = .ok (.iload 5, 2) := by decide +kernel
theorem dX10_row_53 : decode cX10_row 53 = .ok (.goto 8, 3) := by decide +kernel
set_option maxHeartbeats 4000000 in
set_option maxRecDepth 100000 in
theorem s_X10_row {l : Launch} {G : Gc} (qx : Nat) (a1 : Int32) (a2 : Int32) (a3 : Int32) (a4 : Int32) (qt : Nat) (qs : Nat) (qd : Nat) (qa : Nat) (qb : Nat) (qh : Nat) (qr : Nat) (qe : Nat) (qp : Nat) (qf : Nat) (qn : Nat) (qi : Nat) (qw : Nat) (qx_toldAny : Int32) (qx_lastFault : Int32) (qx_lastMoved : Int32) (qx_lastScratched : Int32) (qs_slides : Int32) (qs_hearers : Int32) (qs_nears : Int32) (qs_lines : Int32) (qs_pass : Int32) (qs_spread : Int32) (qs_lamp : Int32) (qs_behind : Int32) (qs_settingsTold : Int32) (qs_slideNames : Nat) (qs_pictures : Nat) (qs_heats : Nat) (qs_after : Nat) (qs_hearerNames : Nat) (qs_needs : Nat) (qs_likes : Nat) (qs_hates : Nat) (qs_near : Nat) (qa_hour : Int32) (qa_heat : Int32) (qa_black : Int32) (qa_so : Int32) (qa_cracked : Int32) (qa_behind : Int32) (qa_allSighs : Int32) (qa_seed : Int32) (qa_pictures : Nat) (qa_shown : Nat) (qa_sighed : Nat) (qa_pictures_c : Nat → Int32) (hi_qs_slides : 0 ≤ qs_slides.toInt ∧ qs_slides.toInt ≤ 6) : Ci l yX10_row cX10_row 6 (some .int) 2 0 0 G [.ref qx, .int a1, .int a2, .int a3, .int a4] [(qx, .inr (9, [.ref qt, .ref qs, .ref qd, .ref qa, .ref qb, .ref qh, .ref qr, .ref qe, .ref qp, .ref qf, .ref qn, .ref qi, .ref qw, .int qx_toldAny, .int qx_lastFault, .int qx_lastMoved, .int qx_lastScratched])), (qs, .inr (4, [.int qs_slides, .int qs_hearers, .int qs_nears, .int qs_lines, .int qs_pass, .int qs_spread, .int qs_lamp, .int qs_behind, .int qs_settingsTold, .ref qs_slideNames, .ref qs_pictures, .ref qs_heats, .ref qs_after, .ref qs_hearerNames, .ref qs_needs, .ref qs_likes, .ref qs_hates, .ref qs_near])), (qa, .inr (7, [.int qa_hour, .int qa_heat, .int qa_black, .int qa_so, .int qa_cracked, .int qa_behind, .int qa_allSighs, .int qa_seed, .ref qa_pictures, .ref qa_shown, .ref qa_sighed])), (qa_pictures, eI G 6 qa_pictures_c)] (fun (r9 : Int32) (u9 : va_W) => ∃ (r_x : Int32), r9 = r_x ∧ u9 = [(qx, .inr (9, [.ref qt, .ref qs, .ref qd, .ref qa, .ref qb, .ref qh, .ref qr, .ref qe, .ref qp, .ref qf, .ref qn, .ref qi, .ref qw, .int qx_toldAny, .int qx_lastFault, .int qx_lastMoved, .int qx_lastScratched])), (qs, .inr (4, [.int qs_slides, .int qs_hearers, .int qs_nears, .int qs_lines, .int qs_pass, .int qs_spread, .int qs_lamp, .int qs_behind, .int qs_settingsTold, .ref qs_slideNames, .ref qs_pictures, .ref qs_heats, .ref qs_after, .ref qs_hearerNames, .ref qs_needs, .ref qs_likes, .ref qs_hates, .ref qs_near])), (qa, .inr (7, [.int qa_hour, .int qa_heat, .int qa_black, .int qa_so, .int qa_cracked, .int qa_behind, .int qa_allSighs, .int qa_seed, .ref qa_pictures, .ref qa_shown, .ref qa_sighed])), (qa_pictures, eI G 6 qa_pictures_c)]) := by
  refine Ci.ofQ (by decide) (Nat.le_of_ble_eq_true rfl) ?_
  intro p e s m below meth c ls A args Q hQ B hw hl
  have C : CallFix p m c cX10_row 6 s args gw "LanternState" := B.1
  have hl : lv_has ls 6 [(0, .ref qx), (1, .int a1), (2, .int a2), (3, .int a3), (4, .int a4)] := hl
  refine lv_aload_n C.1 C.2.1 dX10_row_0 rfl (lv_at hl 0 rfl) ?_
  refine lv_iload_n C.1 C.2.1 dX10_row_1 rfl (lv_at hl 1 rfl) ?_
  refine x_calliV (As := [.int a1]) (rest := []) (wr := [(qa, .inr (7, [.int qa_hour, .int qa_heat, .int qa_black, .int qa_so, .int qa_cracked, .int qa_behind, .int qa_allSighs, .int qa_seed, .ref qa_pictures, .ref qa_shown, .ref qa_sighed])), (qa_pictures, eI G 6 qa_pictures_c)]) C hw (s_X10_isSlide qx a1 qt qs qd qa qb qh qr qe qp qf qn qi qw qx_toldAny qx_lastFault qx_lastMoved qx_lastScratched qs_slides qs_hearers qs_nears qs_lines qs_pass qs_spread qs_lamp qs_behind qs_settingsTold qs_slideNames qs_pictures qs_heats qs_after qs_hearerNames qs_needs qs_likes qs_hates qs_near (by omega)) mwX10_isSlide kw649 [0, 1] [2, 3] rfl rfl rfl rfl (by decide) 0 rfl rfl rfl rfl hl.1 rfl (Nat.le_of_ble_eq_true rfl) ⟨(Nat.le_of_ble_eq_true rfl), (Nat.le_of_ble_eq_true rfl)⟩ ⟨(Nat.le_of_ble_eq_true rfl), (Nat.le_of_ble_eq_true rfl)⟩ dX10_row_2 (fun r1 u9 H locs hp9 hw => ?_)
  rcases hp9 with ⟨rfl, rfl, hf2⟩ | ⟨rfl, rfl, hf3, hf4⟩
  · skip
    have hw : Wd G s A [(qa, .inr (7, [.int qa_hour, .int qa_heat, .int qa_black, .int qa_so, .int qa_cracked, .int qa_behind, .int qa_allSighs, .int qa_seed, .ref qa_pictures, .ref qa_shown, .ref qa_sighed])), (qa_pictures, eI G 6 qa_pictures_c), (qx, .inr (9, [.ref qt, .ref qs, .ref qd, .ref qa, .ref qb, .ref qh, .ref qr, .ref qe, .ref qp, .ref qf, .ref qn, .ref qi, .ref qw, .int qx_toldAny, .int qx_lastFault, .int qx_lastMoved, .int qx_lastScratched])), (qs, .inr (4, [.int qs_slides, .int qs_hearers, .int qs_nears, .int qs_lines, .int qs_pass, .int qs_spread, .int qs_lamp, .int qs_behind, .int qs_settingsTold, .ref qs_slideNames, .ref qs_pictures, .ref qs_heats, .ref qs_after, .ref qs_hearerNames, .ref qs_needs, .ref qs_likes, .ref qs_hates, .ref qs_near]))] H _ := hw
    refine lv_if_eq (tgt := 30) C.1 C.2.1 dX10_row_5 (by decide) (fun _ => ?_) (fun h9 => absurd (by decide) h9)
    refine lv_iconst (v := (-1)) C.1 C.2.1 dX10_row_30 (by decide) ?_
    have hw := hw.sub (w' := [(qx, .inr (9, [.ref qt, .ref qs, .ref qd, .ref qa, .ref qb, .ref qh, .ref qr, .ref qe, .ref qp, .ref qf, .ref qn, .ref qi, .ref qw, .int qx_toldAny, .int qx_lastFault, .int qx_lastMoved, .int qx_lastScratched])), (qs, .inr (4, [.int qs_slides, .int qs_hearers, .int qs_nears, .int qs_lines, .int qs_pass, .int qs_spread, .int qs_lamp, .int qs_behind, .int qs_settingsTold, .ref qs_slideNames, .ref qs_pictures, .ref qs_heats, .ref qs_after, .ref qs_hearerNames, .ref qs_needs, .ref qs_likes, .ref qs_hates, .ref qs_near])), (qa, .inr (7, [.int qa_hour, .int qa_heat, .int qa_black, .int qa_so, .int qa_cracked, .int qa_behind, .int qa_allSighs, .int qa_seed, .ref qa_pictures, .ref qa_shown, .ref qa_sighed])), (qa_pictures, eI G 6 qa_pictures_c)]) [2, 3, 0, 1] rfl rfl
    exact x_retiQ hQ B hw ⟨(-1), rfl, rfl⟩ (Nat.le_of_ble_eq_true rfl) (Nat.le_of_ble_eq_true rfl) dX10_row_31
  · skip
    have hw : Wd G s A [(qa, .inr (7, [.int qa_hour, .int qa_heat, .int qa_black, .int qa_so, .int qa_cracked, .int qa_behind, .int qa_allSighs, .int qa_seed, .ref qa_pictures, .ref qa_shown, .ref qa_sighed])), (qa_pictures, eI G 6 qa_pictures_c), (qx, .inr (9, [.ref qt, .ref qs, .ref qd, .ref qa, .ref qb, .ref qh, .ref qr, .ref qe, .ref qp, .ref qf, .ref qn, .ref qi, .ref qw, .int qx_toldAny, .int qx_lastFault, .int qx_lastMoved, .int qx_lastScratched])), (qs, .inr (4, [.int qs_slides, .int qs_hearers, .int qs_nears, .int qs_lines, .int qs_pass, .int qs_spread, .int qs_lamp, .int qs_behind, .int qs_settingsTold, .ref qs_slideNames, .ref qs_pictures, .ref qs_heats, .ref qs_after, .ref qs_hearerNames, .ref qs_needs, .ref qs_likes, .ref qs_hates, .ref qs_near]))] H _ := hw
    refine lv_if_eq (tgt := 30) C.1 C.2.1 dX10_row_5 (by decide) (fun h9 => absurd h9 (by decide)) (fun _ => ?_)
    refine lv_iload_n C.1 C.2.1 dX10_row_8 rfl (lv_at hl 2 rfl) ?_
    refine x_calliS (As := [.int a2]) (rest := []) (wr := [(qa, .inr (7, [.int qa_hour, .int qa_heat, .int qa_black, .int qa_so, .int qa_cracked, .int qa_behind, .int qa_allSighs, .int qa_seed, .ref qa_pictures, .ref qa_shown, .ref qa_sighed])), (qa_pictures, eI G 6 qa_pictures_c), (qx, .inr (9, [.ref qt, .ref qs, .ref qd, .ref qa, .ref qb, .ref qh, .ref qr, .ref qe, .ref qp, .ref qf, .ref qn, .ref qi, .ref qw, .int qx_toldAny, .int qx_lastFault, .int qx_lastMoved, .int qx_lastScratched])), (qs, .inr (4, [.int qs_slides, .int qs_hearers, .int qs_nears, .int qs_lines, .int qs_pass, .int qs_spread, .int qs_lamp, .int qs_behind, .int qs_settingsTold, .ref qs_slideNames, .ref qs_pictures, .ref qs_heats, .ref qs_after, .ref qs_hearerNames, .ref qs_needs, .ref qs_likes, .ref qs_hates, .ref qs_near]))]) C hw (s_X10_isWay a2) mwX10_isWay kw653 [] [0, 1, 2, 3] rfl rfl rfl rfl (by decide) rfl hl.1 rfl (Nat.le_of_ble_eq_true rfl) ⟨(Nat.le_of_ble_eq_true rfl), (Nat.le_of_ble_eq_true rfl)⟩ ⟨(Nat.le_of_ble_eq_true rfl), (Nat.le_of_ble_eq_true rfl)⟩ dX10_row_9 (fun r5 u9 H locs hp9 hw => ?_)
    rcases hp9 with ⟨rfl, rfl⟩ | ⟨rfl, rfl, hf6⟩
    · skip
      have hw : Wd G s A [(qa, .inr (7, [.int qa_hour, .int qa_heat, .int qa_black, .int qa_so, .int qa_cracked, .int qa_behind, .int qa_allSighs, .int qa_seed, .ref qa_pictures, .ref qa_shown, .ref qa_sighed])), (qa_pictures, eI G 6 qa_pictures_c), (qx, .inr (9, [.ref qt, .ref qs, .ref qd, .ref qa, .ref qb, .ref qh, .ref qr, .ref qe, .ref qp, .ref qf, .ref qn, .ref qi, .ref qw, .int qx_toldAny, .int qx_lastFault, .int qx_lastMoved, .int qx_lastScratched])), (qs, .inr (4, [.int qs_slides, .int qs_hearers, .int qs_nears, .int qs_lines, .int qs_pass, .int qs_spread, .int qs_lamp, .int qs_behind, .int qs_settingsTold, .ref qs_slideNames, .ref qs_pictures, .ref qs_heats, .ref qs_after, .ref qs_hearerNames, .ref qs_needs, .ref qs_likes, .ref qs_hates, .ref qs_near]))] H _ := hw
      refine lv_if_eq (tgt := 30) C.1 C.2.1 dX10_row_12 (by decide) (fun _ => ?_) (fun h9 => absurd (by decide) h9)
      refine lv_iconst (v := (-1)) C.1 C.2.1 dX10_row_30 (by decide) ?_
      have hw := hw.sub (w' := [(qx, .inr (9, [.ref qt, .ref qs, .ref qd, .ref qa, .ref qb, .ref qh, .ref qr, .ref qe, .ref qp, .ref qf, .ref qn, .ref qi, .ref qw, .int qx_toldAny, .int qx_lastFault, .int qx_lastMoved, .int qx_lastScratched])), (qs, .inr (4, [.int qs_slides, .int qs_hearers, .int qs_nears, .int qs_lines, .int qs_pass, .int qs_spread, .int qs_lamp, .int qs_behind, .int qs_settingsTold, .ref qs_slideNames, .ref qs_pictures, .ref qs_heats, .ref qs_after, .ref qs_hearerNames, .ref qs_needs, .ref qs_likes, .ref qs_hates, .ref qs_near])), (qa, .inr (7, [.int qa_hour, .int qa_heat, .int qa_black, .int qa_so, .int qa_cracked, .int qa_behind, .int qa_allSighs, .int qa_seed, .ref qa_pictures, .ref qa_shown, .ref qa_sighed])), (qa_pictures, eI G 6 qa_pictures_c)]) [2, 3, 0, 1] rfl rfl
      exact x_retiQ hQ B hw ⟨(-1), rfl, rfl⟩ (Nat.le_of_ble_eq_true rfl) (Nat.le_of_ble_eq_true rfl) dX10_row_31
    · skip
      have hw : Wd G s A [(qa, .inr (7, [.int qa_hour, .int qa_heat, .int qa_black, .int qa_so, .int qa_cracked, .int qa_behind, .int qa_allSighs, .int qa_seed, .ref qa_pictures, .ref qa_shown, .ref qa_sighed])), (qa_pictures, eI G 6 qa_pictures_c), (qx, .inr (9, [.ref qt, .ref qs, .ref qd, .ref qa, .ref qb, .ref qh, .ref qr, .ref qe, .ref qp, .ref qf, .ref qn, .ref qi, .ref qw, .int qx_toldAny, .int qx_lastFault, .int qx_lastMoved, .int qx_lastScratched])), (qs, .inr (4, [.int qs_slides, .int qs_hearers, .int qs_nears, .int qs_lines, .int qs_pass, .int qs_spread, .int qs_lamp, .int qs_behind, .int qs_settingsTold, .ref qs_slideNames, .ref qs_pictures, .ref qs_heats, .ref qs_after, .ref qs_hearerNames, .ref qs_needs, .ref qs_likes, .ref qs_hates, .ref qs_near]))] H _ := hw
      refine lv_if_eq (tgt := 30) C.1 C.2.1 dX10_row_12 (by decide) (fun h9 => absurd h9 (by decide)) (fun _ => ?_)
      refine lv_iload_n C.1 C.2.1 dX10_row_15 rfl (lv_at hl 3 rfl) ?_
      refine x_calliS (As := [.int a3]) (rest := []) (wr := [(qa, .inr (7, [.int qa_hour, .int qa_heat, .int qa_black, .int qa_so, .int qa_cracked, .int qa_behind, .int qa_allSighs, .int qa_seed, .ref qa_pictures, .ref qa_shown, .ref qa_sighed])), (qa_pictures, eI G 6 qa_pictures_c), (qx, .inr (9, [.ref qt, .ref qs, .ref qd, .ref qa, .ref qb, .ref qh, .ref qr, .ref qe, .ref qp, .ref qf, .ref qn, .ref qi, .ref qw, .int qx_toldAny, .int qx_lastFault, .int qx_lastMoved, .int qx_lastScratched])), (qs, .inr (4, [.int qs_slides, .int qs_hearers, .int qs_nears, .int qs_lines, .int qs_pass, .int qs_spread, .int qs_lamp, .int qs_behind, .int qs_settingsTold, .ref qs_slideNames, .ref qs_pictures, .ref qs_heats, .ref qs_after, .ref qs_hearerNames, .ref qs_needs, .ref qs_likes, .ref qs_hates, .ref qs_near]))]) C hw (s_X10_isSeat a3) mwX10_isSeat kw656 [] [0, 1, 2, 3] rfl rfl rfl rfl (by decide) rfl hl.1 rfl (Nat.le_of_ble_eq_true rfl) ⟨(Nat.le_of_ble_eq_true rfl), (Nat.le_of_ble_eq_true rfl)⟩ ⟨(Nat.le_of_ble_eq_true rfl), (Nat.le_of_ble_eq_true rfl)⟩ dX10_row_16 (fun r7 u9 H locs hp9 hw => ?_)
      rcases hp9 with ⟨rfl, rfl⟩ | ⟨rfl, rfl, hf8⟩
      · skip
        have hw : Wd G s A [(qa, .inr (7, [.int qa_hour, .int qa_heat, .int qa_black, .int qa_so, .int qa_cracked, .int qa_behind, .int qa_allSighs, .int qa_seed, .ref qa_pictures, .ref qa_shown, .ref qa_sighed])), (qa_pictures, eI G 6 qa_pictures_c), (qx, .inr (9, [.ref qt, .ref qs, .ref qd, .ref qa, .ref qb, .ref qh, .ref qr, .ref qe, .ref qp, .ref qf, .ref qn, .ref qi, .ref qw, .int qx_toldAny, .int qx_lastFault, .int qx_lastMoved, .int qx_lastScratched])), (qs, .inr (4, [.int qs_slides, .int qs_hearers, .int qs_nears, .int qs_lines, .int qs_pass, .int qs_spread, .int qs_lamp, .int qs_behind, .int qs_settingsTold, .ref qs_slideNames, .ref qs_pictures, .ref qs_heats, .ref qs_after, .ref qs_hearerNames, .ref qs_needs, .ref qs_likes, .ref qs_hates, .ref qs_near]))] H _ := hw
        refine lv_if_eq (tgt := 30) C.1 C.2.1 dX10_row_19 (by decide) (fun _ => ?_) (fun h9 => absurd (by decide) h9)
        refine lv_iconst (v := (-1)) C.1 C.2.1 dX10_row_30 (by decide) ?_
        have hw := hw.sub (w' := [(qx, .inr (9, [.ref qt, .ref qs, .ref qd, .ref qa, .ref qb, .ref qh, .ref qr, .ref qe, .ref qp, .ref qf, .ref qn, .ref qi, .ref qw, .int qx_toldAny, .int qx_lastFault, .int qx_lastMoved, .int qx_lastScratched])), (qs, .inr (4, [.int qs_slides, .int qs_hearers, .int qs_nears, .int qs_lines, .int qs_pass, .int qs_spread, .int qs_lamp, .int qs_behind, .int qs_settingsTold, .ref qs_slideNames, .ref qs_pictures, .ref qs_heats, .ref qs_after, .ref qs_hearerNames, .ref qs_needs, .ref qs_likes, .ref qs_hates, .ref qs_near])), (qa, .inr (7, [.int qa_hour, .int qa_heat, .int qa_black, .int qa_so, .int qa_cracked, .int qa_behind, .int qa_allSighs, .int qa_seed, .ref qa_pictures, .ref qa_shown, .ref qa_sighed])), (qa_pictures, eI G 6 qa_pictures_c)]) [2, 3, 0, 1] rfl rfl
        exact x_retiQ hQ B hw ⟨(-1), rfl, rfl⟩ (Nat.le_of_ble_eq_true rfl) (Nat.le_of_ble_eq_true rfl) dX10_row_31
      · skip
        have hw : Wd G s A [(qa, .inr (7, [.int qa_hour, .int qa_heat, .int qa_black, .int qa_so, .int qa_cracked, .int qa_behind, .int qa_allSighs, .int qa_seed, .ref qa_pictures, .ref qa_shown, .ref qa_sighed])), (qa_pictures, eI G 6 qa_pictures_c), (qx, .inr (9, [.ref qt, .ref qs, .ref qd, .ref qa, .ref qb, .ref qh, .ref qr, .ref qe, .ref qp, .ref qf, .ref qn, .ref qi, .ref qw, .int qx_toldAny, .int qx_lastFault, .int qx_lastMoved, .int qx_lastScratched])), (qs, .inr (4, [.int qs_slides, .int qs_hearers, .int qs_nears, .int qs_lines, .int qs_pass, .int qs_spread, .int qs_lamp, .int qs_behind, .int qs_settingsTold, .ref qs_slideNames, .ref qs_pictures, .ref qs_heats, .ref qs_after, .ref qs_hearerNames, .ref qs_needs, .ref qs_likes, .ref qs_hates, .ref qs_near]))] H _ := hw
        refine lv_if_eq (tgt := 30) C.1 C.2.1 dX10_row_19 (by decide) (fun h9 => absurd h9 (by decide)) (fun _ => ?_)
        refine lv_iload C.1 C.2.1 dX10_row_22 (lv_at hl 4 rfl) ?_
        refine x_calliS (As := [.int a4]) (rest := []) (wr := [(qa, .inr (7, [.int qa_hour, .int qa_heat, .int qa_black, .int qa_so, .int qa_cracked, .int qa_behind, .int qa_allSighs, .int qa_seed, .ref qa_pictures, .ref qa_shown, .ref qa_sighed])), (qa_pictures, eI G 6 qa_pictures_c), (qx, .inr (9, [.ref qt, .ref qs, .ref qd, .ref qa, .ref qb, .ref qh, .ref qr, .ref qe, .ref qp, .ref qf, .ref qn, .ref qi, .ref qw, .int qx_toldAny, .int qx_lastFault, .int qx_lastMoved, .int qx_lastScratched])), (qs, .inr (4, [.int qs_slides, .int qs_hearers, .int qs_nears, .int qs_lines, .int qs_pass, .int qs_spread, .int qs_lamp, .int qs_behind, .int qs_settingsTold, .ref qs_slideNames, .ref qs_pictures, .ref qs_heats, .ref qs_after, .ref qs_hearerNames, .ref qs_needs, .ref qs_likes, .ref qs_hates, .ref qs_near]))]) C hw (s_X10_isPlace a4) mwX10_isPlace kw659 [] [0, 1, 2, 3] rfl rfl rfl rfl (by decide) rfl hl.1 rfl (Nat.le_of_ble_eq_true rfl) ⟨(Nat.le_of_ble_eq_true rfl), (Nat.le_of_ble_eq_true rfl)⟩ ⟨(Nat.le_of_ble_eq_true rfl), (Nat.le_of_ble_eq_true rfl)⟩ dX10_row_24 (fun r9 u9 H locs hp9 hw => ?_)
        rcases hp9 with ⟨rfl, rfl⟩ | ⟨rfl, rfl, hf10⟩
        · skip
          have hw : Wd G s A [(qa, .inr (7, [.int qa_hour, .int qa_heat, .int qa_black, .int qa_so, .int qa_cracked, .int qa_behind, .int qa_allSighs, .int qa_seed, .ref qa_pictures, .ref qa_shown, .ref qa_sighed])), (qa_pictures, eI G 6 qa_pictures_c), (qx, .inr (9, [.ref qt, .ref qs, .ref qd, .ref qa, .ref qb, .ref qh, .ref qr, .ref qe, .ref qp, .ref qf, .ref qn, .ref qi, .ref qw, .int qx_toldAny, .int qx_lastFault, .int qx_lastMoved, .int qx_lastScratched])), (qs, .inr (4, [.int qs_slides, .int qs_hearers, .int qs_nears, .int qs_lines, .int qs_pass, .int qs_spread, .int qs_lamp, .int qs_behind, .int qs_settingsTold, .ref qs_slideNames, .ref qs_pictures, .ref qs_heats, .ref qs_after, .ref qs_hearerNames, .ref qs_needs, .ref qs_likes, .ref qs_hates, .ref qs_near]))] H _ := hw
          refine lv_if_ne (tgt := 32) C.1 C.2.1 dX10_row_27 (by decide) (fun h9 => absurd (by decide) h9) (fun _ => ?_)
          refine lv_iconst (v := (-1)) C.1 C.2.1 dX10_row_30 (by decide) ?_
          have hw := hw.sub (w' := [(qx, .inr (9, [.ref qt, .ref qs, .ref qd, .ref qa, .ref qb, .ref qh, .ref qr, .ref qe, .ref qp, .ref qf, .ref qn, .ref qi, .ref qw, .int qx_toldAny, .int qx_lastFault, .int qx_lastMoved, .int qx_lastScratched])), (qs, .inr (4, [.int qs_slides, .int qs_hearers, .int qs_nears, .int qs_lines, .int qs_pass, .int qs_spread, .int qs_lamp, .int qs_behind, .int qs_settingsTold, .ref qs_slideNames, .ref qs_pictures, .ref qs_heats, .ref qs_after, .ref qs_hearerNames, .ref qs_needs, .ref qs_likes, .ref qs_hates, .ref qs_near])), (qa, .inr (7, [.int qa_hour, .int qa_heat, .int qa_black, .int qa_so, .int qa_cracked, .int qa_behind, .int qa_allSighs, .int qa_seed, .ref qa_pictures, .ref qa_shown, .ref qa_sighed])), (qa_pictures, eI G 6 qa_pictures_c)]) [2, 3, 0, 1] rfl rfl
          exact x_retiQ hQ B hw ⟨(-1), rfl, rfl⟩ (Nat.le_of_ble_eq_true rfl) (Nat.le_of_ble_eq_true rfl) dX10_row_31
        · skip
          have hw : Wd G s A [(qa, .inr (7, [.int qa_hour, .int qa_heat, .int qa_black, .int qa_so, .int qa_cracked, .int qa_behind, .int qa_allSighs, .int qa_seed, .ref qa_pictures, .ref qa_shown, .ref qa_sighed])), (qa_pictures, eI G 6 qa_pictures_c), (qx, .inr (9, [.ref qt, .ref qs, .ref qd, .ref qa, .ref qb, .ref qh, .ref qr, .ref qe, .ref qp, .ref qf, .ref qn, .ref qi, .ref qw, .int qx_toldAny, .int qx_lastFault, .int qx_lastMoved, .int qx_lastScratched])), (qs, .inr (4, [.int qs_slides, .int qs_hearers, .int qs_nears, .int qs_lines, .int qs_pass, .int qs_spread, .int qs_lamp, .int qs_behind, .int qs_settingsTold, .ref qs_slideNames, .ref qs_pictures, .ref qs_heats, .ref qs_after, .ref qs_hearerNames, .ref qs_needs, .ref qs_likes, .ref qs_hates, .ref qs_near]))] H _ := hw
          refine lv_if_ne (tgt := 32) C.1 C.2.1 dX10_row_27 (by decide) (fun _ => ?_) (fun h9 => absurd h9 (by decide))
          refine lv_aload_n C.1 C.2.1 dX10_row_32 rfl (lv_at hl 0 rfl) ?_
          refine x_get C hw iwX10 9 rfl 2 rfl 3 (by decide) kw449 rfl dX10_row_33 ?_
          refine x_get C hw iwX8 7 rfl 0 rfl 8 (by decide) kw265 rfl dX10_row_36 ?_
          refine lv_iload_n C.1 C.2.1 dX10_row_39 rfl (lv_at hl 1 rfl) ?_
          refine x_iald (v := (qa_pictures_c a1.toNatClampNeg)) C hw 1 rfl (i_in (by omega) (by omega)) rfl dX10_row_40 (x_gen (fun v11 => ?_))
          refine lv_iload_n C.1 C.2.1 dX10_row_41 rfl (lv_at hl 2 rfl) ?_
          refine x_calliS (As := [.int v11, .int a2]) (rest := []) (wr := [(qa, .inr (7, [.int qa_hour, .int qa_heat, .int qa_black, .int qa_so, .int qa_cracked, .int qa_behind, .int qa_allSighs, .int qa_seed, .ref qa_pictures, .ref qa_shown, .ref qa_sighed])), (qa_pictures, eI G 6 qa_pictures_c), (qx, .inr (9, [.ref qt, .ref qs, .ref qd, .ref qa, .ref qb, .ref qh, .ref qr, .ref qe, .ref qp, .ref qf, .ref qn, .ref qi, .ref qw, .int qx_toldAny, .int qx_lastFault, .int qx_lastMoved, .int qx_lastScratched])), (qs, .inr (4, [.int qs_slides, .int qs_hearers, .int qs_nears, .int qs_lines, .int qs_pass, .int qs_spread, .int qs_lamp, .int qs_behind, .int qs_settingsTold, .ref qs_slideNames, .ref qs_pictures, .ref qs_heats, .ref qs_after, .ref qs_hearerNames, .ref qs_needs, .ref qs_likes, .ref qs_hates, .ref qs_near]))]) C hw (s_X4_turn v11 a2) mwX4_turn kw662 [] [0, 1, 2, 3] rfl rfl rfl rfl (by decide) rfl hl.1 rfl (Nat.le_of_ble_eq_true rfl) ⟨(Nat.le_of_ble_eq_true rfl), (Nat.le_of_ble_eq_true rfl)⟩ ⟨(Nat.le_of_ble_eq_true rfl), (Nat.le_of_ble_eq_true rfl)⟩ dX10_row_42 (fun r12 u9 H locs hp9 hw => ?_)
          obtain ⟨x13, rfl, rfl⟩ := hp9
          have hw : Wd G s A [(qa, .inr (7, [.int qa_hour, .int qa_heat, .int qa_black, .int qa_so, .int qa_cracked, .int qa_behind, .int qa_allSighs, .int qa_seed, .ref qa_pictures, .ref qa_shown, .ref qa_sighed])), (qa_pictures, eI G 6 qa_pictures_c), (qx, .inr (9, [.ref qt, .ref qs, .ref qd, .ref qa, .ref qb, .ref qh, .ref qr, .ref qe, .ref qp, .ref qf, .ref qn, .ref qi, .ref qw, .int qx_toldAny, .int qx_lastFault, .int qx_lastMoved, .int qx_lastScratched])), (qs, .inr (4, [.int qs_slides, .int qs_hearers, .int qs_nears, .int qs_lines, .int qs_pass, .int qs_spread, .int qs_lamp, .int qs_behind, .int qs_settingsTold, .ref qs_slideNames, .ref qs_pictures, .ref qs_heats, .ref qs_after, .ref qs_hearerNames, .ref qs_needs, .ref qs_likes, .ref qs_hates, .ref qs_near]))] H _ := hw
          refine lv_istore (lv' := [(5, .int r12), (0, .ref qx), (1, .int a1), (2, .int a2), (3, .int a3), (4, .int a4)]) C.1 C.2.1 dX10_row_45 hl (by decide) rfl (fun ls hl => ?_)
          refine lv_iload_n C.1 C.2.1 dX10_row_47 rfl (lv_at hl 4 rfl) ?_
          refine lv_if_ne (tgt := 56) C.1 C.2.1 dX10_row_48 (by decide) (fun c14 => ?_) (fun c14 => ?_)
          · skip
            have c14 : a3.toInt ≠ 0 := i_eqF (X := a3.toInt) (Y := 0) rfl rfl c14
            refine lv_iload C.1 C.2.1 dX10_row_56 (lv_at hl 0 rfl) ?_
            refine x_calliS (As := [.int r12]) (rest := []) (wr := [(qa, .inr (7, [.int qa_hour, .int qa_heat, .int qa_black, .int qa_so, .int qa_cracked, .int qa_behind, .int qa_allSighs, .int qa_seed, .ref qa_pictures, .ref qa_shown, .ref qa_sighed])), (qa_pictures, eI G 6 qa_pictures_c), (qx, .inr (9, [.ref qt, .ref qs, .ref qd, .ref qa, .ref qb, .ref qh, .ref qr, .ref qe, .ref qp, .ref qf, .ref qn, .ref qi, .ref qw, .int qx_toldAny, .int qx_lastFault, .int qx_lastMoved, .int qx_lastScratched])), (qs, .inr (4, [.int qs_slides, .int qs_hearers, .int qs_nears, .int qs_lines, .int qs_pass, .int qs_spread, .int qs_lamp, .int qs_behind, .int qs_settingsTold, .ref qs_slideNames, .ref qs_pictures, .ref qs_heats, .ref qs_after, .ref qs_hearerNames, .ref qs_needs, .ref qs_likes, .ref qs_hates, .ref qs_near]))]) C hw (s_X4_mirror r12) mwX4_mirror kw669 [] [0, 1, 2, 3] rfl rfl rfl rfl (by decide) rfl hl.1 rfl (Nat.le_of_ble_eq_true rfl) ⟨(Nat.le_of_ble_eq_true rfl), (Nat.le_of_ble_eq_true rfl)⟩ ⟨(Nat.le_of_ble_eq_true rfl), (Nat.le_of_ble_eq_true rfl)⟩ dX10_row_58 (fun r15 u9 H locs hp9 hw => ?_)
            obtain ⟨x16, rfl, rfl⟩ := hp9
            have hw : Wd G s A [(qa, .inr (7, [.int qa_hour, .int qa_heat, .int qa_black, .int qa_so, .int qa_cracked, .int qa_behind, .int qa_allSighs, .int qa_seed, .ref qa_pictures, .ref qa_shown, .ref qa_sighed])), (qa_pictures, eI G 6 qa_pictures_c), (qx, .inr (9, [.ref qt, .ref qs, .ref qd, .ref qa, .ref qb, .ref qh, .ref qr, .ref qe, .ref qp, .ref qf, .ref qn, .ref qi, .ref qw, .int qx_toldAny, .int qx_lastFault, .int qx_lastMoved, .int qx_lastScratched])), (qs, .inr (4, [.int qs_slides, .int qs_hearers, .int qs_nears, .int qs_lines, .int qs_pass, .int qs_spread, .int qs_lamp, .int qs_behind, .int qs_settingsTold, .ref qs_slideNames, .ref qs_pictures, .ref qs_heats, .ref qs_after, .ref qs_hearerNames, .ref qs_needs, .ref qs_likes, .ref qs_hates, .ref qs_near]))] H _ := hw
            refine lv_iload C.1 C.2.1 dX10_row_61 (lv_at hl 5 rfl) ?_
            refine x_calliS (As := [.int r15, .int a4]) (rest := []) (wr := [(qa, .inr (7, [.int qa_hour, .int qa_heat, .int qa_black, .int qa_so, .int qa_cracked, .int qa_behind, .int qa_allSighs, .int qa_seed, .ref qa_pictures, .ref qa_shown, .ref qa_sighed])), (qa_pictures, eI G 6 qa_pictures_c), (qx, .inr (9, [.ref qt, .ref qs, .ref qd, .ref qa, .ref qb, .ref qh, .ref qr, .ref qe, .ref qp, .ref qf, .ref qn, .ref qi, .ref qw, .int qx_toldAny, .int qx_lastFault, .int qx_lastMoved, .int qx_lastScratched])), (qs, .inr (4, [.int qs_slides, .int qs_hearers, .int qs_nears, .int qs_lines, .int qs_pass, .int qs_spread, .int qs_lamp, .int qs_behind, .int qs_settingsTold, .ref qs_slideNames, .ref qs_pictures, .ref qs_heats, .ref qs_after, .ref qs_hearerNames, .ref qs_needs, .ref qs_likes, .ref qs_hates, .ref qs_near]))]) C hw (s_X4_rowOf r15 a4) mwX4_rowOf kw670 [] [0, 1, 2, 3] rfl rfl rfl rfl (by decide) rfl hl.1 rfl (Nat.le_of_ble_eq_true rfl) ⟨(Nat.le_of_ble_eq_true rfl), (Nat.le_of_ble_eq_true rfl)⟩ ⟨(Nat.le_of_ble_eq_true rfl), (Nat.le_of_ble_eq_true rfl)⟩ dX10_row_63 (fun r17 u9 H locs hp9 hw => ?_)
            obtain ⟨x18, rfl, rfl⟩ := hp9
            have hw : Wd G s A [(qa, .inr (7, [.int qa_hour, .int qa_heat, .int qa_black, .int qa_so, .int qa_cracked, .int qa_behind, .int qa_allSighs, .int qa_seed, .ref qa_pictures, .ref qa_shown, .ref qa_sighed])), (qa_pictures, eI G 6 qa_pictures_c), (qx, .inr (9, [.ref qt, .ref qs, .ref qd, .ref qa, .ref qb, .ref qh, .ref qr, .ref qe, .ref qp, .ref qf, .ref qn, .ref qi, .ref qw, .int qx_toldAny, .int qx_lastFault, .int qx_lastMoved, .int qx_lastScratched])), (qs, .inr (4, [.int qs_slides, .int qs_hearers, .int qs_nears, .int qs_lines, .int qs_pass, .int qs_spread, .int qs_lamp, .int qs_behind, .int qs_settingsTold, .ref qs_slideNames, .ref qs_pictures, .ref qs_heats, .ref qs_after, .ref qs_hearerNames, .ref qs_needs, .ref qs_likes, .ref qs_hates, .ref qs_near]))] H _ := hw
            have hw := hw.sub (w' := [(qx, .inr (9, [.ref qt, .ref qs, .ref qd, .ref qa, .ref qb, .ref qh, .ref qr, .ref qe, .ref qp, .ref qf, .ref qn, .ref qi, .ref qw, .int qx_toldAny, .int qx_lastFault, .int qx_lastMoved, .int qx_lastScratched])), (qs, .inr (4, [.int qs_slides, .int qs_hearers, .int qs_nears, .int qs_lines, .int qs_pass, .int qs_spread, .int qs_lamp, .int qs_behind, .int qs_settingsTold, .ref qs_slideNames, .ref qs_pictures, .ref qs_heats, .ref qs_after, .ref qs_hearerNames, .ref qs_needs, .ref qs_likes, .ref qs_hates, .ref qs_near])), (qa, .inr (7, [.int qa_hour, .int qa_heat, .int qa_black, .int qa_so, .int qa_cracked, .int qa_behind, .int qa_allSighs, .int qa_seed, .ref qa_pictures, .ref qa_shown, .ref qa_sighed])), (qa_pictures, eI G 6 qa_pictures_c)]) [2, 3, 0, 1] rfl rfl
            exact x_retiQ hQ B hw ⟨r17, rfl, rfl⟩ (Nat.le_of_ble_eq_true rfl) (Nat.le_of_ble_eq_true rfl) dX10_row_66
          · skip
            have c14 : a3.toInt = 0 := i_eqT (X := a3.toInt) (Y := 0) rfl rfl c14
            refine lv_iload C.1 C.2.1 dX10_row_51 (lv_at hl 0 rfl) ?_
            refine lv_goto (tgt := 61) C.1 C.2.1 dX10_row_53 (by decide) ?_
            refine lv_iload C.1 C.2.1 dX10_row_61 (lv_at hl 5 rfl) ?_
            refine x_calliS (As := [.int r12, .int a4]) (rest := []) (wr := [(qa, .inr (7, [.int qa_hour, .int qa_heat, .int qa_black, .int qa_so, .int qa_cracked, .int qa_behind, .int qa_allSighs, .int qa_seed, .ref qa_pictures, .ref qa_shown, .ref qa_sighed])), (qa_pictures, eI G 6 qa_pictures_c), (qx, .inr (9, [.ref qt, .ref qs, .ref qd, .ref qa, .ref qb, .ref qh, .ref qr, .ref qe, .ref qp, .ref qf, .ref qn, .ref qi, .ref qw, .int qx_toldAny, .int qx_lastFault, .int qx_lastMoved, .int qx_lastScratched])), (qs, .inr (4, [.int qs_slides, .int qs_hearers, .int qs_nears, .int qs_lines, .int qs_pass, .int qs_spread, .int qs_lamp, .int qs_behind, .int qs_settingsTold, .ref qs_slideNames, .ref qs_pictures, .ref qs_heats, .ref qs_after, .ref qs_hearerNames, .ref qs_needs, .ref qs_likes, .ref qs_hates, .ref qs_near]))]) C hw (s_X4_rowOf r12 a4) mwX4_rowOf kw670 [] [0, 1, 2, 3] rfl rfl rfl rfl (by decide) rfl hl.1 rfl (Nat.le_of_ble_eq_true rfl) ⟨(Nat.le_of_ble_eq_true rfl), (Nat.le_of_ble_eq_true rfl)⟩ ⟨(Nat.le_of_ble_eq_true rfl), (Nat.le_of_ble_eq_true rfl)⟩ dX10_row_63 (fun r19 u9 H locs hp9 hw => ?_)
            obtain ⟨x20, rfl, rfl⟩ := hp9
            have hw : Wd G s A [(qa, .inr (7, [.int qa_hour, .int qa_heat, .int qa_black, .int qa_so, .int qa_cracked, .int qa_behind, .int qa_allSighs, .int qa_seed, .ref qa_pictures, .ref qa_shown, .ref qa_sighed])), (qa_pictures, eI G 6 qa_pictures_c), (qx, .inr (9, [.ref qt, .ref qs, .ref qd, .ref qa, .ref qb, .ref qh, .ref qr, .ref qe, .ref qp, .ref qf, .ref qn, .ref qi, .ref qw, .int qx_toldAny, .int qx_lastFault, .int qx_lastMoved, .int qx_lastScratched])), (qs, .inr (4, [.int qs_slides, .int qs_hearers, .int qs_nears, .int qs_lines, .int qs_pass, .int qs_spread, .int qs_lamp, .int qs_behind, .int qs_settingsTold, .ref qs_slideNames, .ref qs_pictures, .ref qs_heats, .ref qs_after, .ref qs_hearerNames, .ref qs_needs, .ref qs_likes, .ref qs_hates, .ref qs_near]))] H _ := hw
            have hw := hw.sub (w' := [(qx, .inr (9, [.ref qt, .ref qs, .ref qd, .ref qa, .ref qb, .ref qh, .ref qr, .ref qe, .ref qp, .ref qf, .ref qn, .ref qi, .ref qw, .int qx_toldAny, .int qx_lastFault, .int qx_lastMoved, .int qx_lastScratched])), (qs, .inr (4, [.int qs_slides, .int qs_hearers, .int qs_nears, .int qs_lines, .int qs_pass, .int qs_spread, .int qs_lamp, .int qs_behind, .int qs_settingsTold, .ref qs_slideNames, .ref qs_pictures, .ref qs_heats, .ref qs_after, .ref qs_hearerNames, .ref qs_needs, .ref qs_likes, .ref qs_hates, .ref qs_near])), (qa, .inr (7, [.int qa_hour, .int qa_heat, .int qa_black, .int qa_so, .int qa_cracked, .int qa_behind, .int qa_allSighs, .int qa_seed, .ref qa_pictures, .ref qa_shown, .ref qa_sighed])), (qa_pictures, eI G 6 qa_pictures_c)]) [2, 3, 0, 1] rfl rfl
            exact x_retiQ hQ B hw ⟨r19, rfl, rfl⟩ (Nat.le_of_ble_eq_true rfl) (Nat.le_of_ble_eq_true rfl) dX10_row_66
theorem dX10_thinks_0 : decode cX10_thinks 0 = .ok (.aload_n 0, 1) := by decide +kernel
theorem dX10_thinks_1 : decode cX10_thinks 1 = .ok (.iload_n 1, 1) := by decide +kernel
theorem dX10_thinks_2 : decode cX10_thinks 2 = .ok (.invokevirtual 188, 3) := by decide +kernel
theorem mwX10_isHearer : MwV yX10_isHearer cX10_isHearer 2 (some .boolean) 1 := ⟨⟨kw680, kw1, by decide +kernel⟩, kw679, kS14⟩
theorem dX10_thinks_5 : decode cX10_thinks 5 = .ok (.ifCond .eq 17, 3) := by decide +kernel
theorem dX10_thinks_22 : decode cX10_thinks 22 = .ok (.iconst (-1), 1) := by decide +kernel
theorem dX10_thinks_23 : decode cX10_thinks 23 = .ok (.ireturn, 1) := by decide +kernel
theorem dX10_thinks_8 : decode cX10_thinks 8 = .ok (.iload_n 2, 1) := by decide +kernel
theorem dX10_thinks_9 : decode cX10_thinks 9 = .ok (.invokestatic 179, 3) := by decide +kernel
theorem dX10_thinks_12 : decode cX10_thinks 12 = .ok (.ifCond .eq 10, 3) := by decide +kernel
theorem dX10_thinks_15 : decode cX10_thinks 15 = .ok (.iload_n 3, 1) := by decide +kernel
theorem dX10_thinks_16 : decode cX10_thinks 16 = .ok (.invokestatic 179, 3) := by decide +kernel
theorem dX10_thinks_19 : decode cX10_thinks 19 = .ok (.ifCond .ne 5, 3) := by decide +kernel
theorem dX10_thinks_24 : decode cX10_thinks 24 = .ok (.iload_n 2, 1) := by decide +kernel
theorem dX10_thinks_25 : decode cX10_thinks 25 = .ok (.iload_n 3, 1) := by decide +kernel
theorem dX10_thinks_26 : decode cX10_thinks 26 = .ok (.invokestatic 211, 3) := by decide +kernel
theorem dX10_thinks_29 : decode cX10_thinks 29 = .ok (.istore 4, 2) := by decide +kernel
theorem dX10_thinks_31 : decode cX10_thinks 31 = .ok (.aload_n 0, 1) := by decide +kernel
theorem dX10_thinks_32 : decode cX10_thinks 32 = .ok (.getfield 19, 3) := by decide +kernel
theorem dX10_thinks_35 : decode cX10_thinks 35 = .ok (.getfield 196, 3) := by decide +kernel
theorem dX10_thinks_38 : decode cX10_thinks 38 = .ok (.iload_n 1, 1) := by decide +kernel
theorem dX10_thinks_39 : decode cX10_thinks 39 = .ok (.iaload, 1) := by decide +kernel
theorem dX10_thinks_40 : decode cX10_thinks 40 = .ok (.iload 4, 2) := by decide +kernel
theorem dX10_thinks_42 : decode cX10_thinks 42 = .ok (.iand, 1) := by decide +kernel
theorem dX10_thinks_43 : decode cX10_thinks 43 = .ok (.ifCond .eq 5, 3) := by decide +kernel
theorem dX10_thinks_48 : decode cX10_thinks 48 = .ok (.aload_n 0, 1) := by decide +kernel
theorem dX10_thinks_49 : decode cX10_thinks 49 = .ok (.getfield 19, 3) := by decide +kernel
theorem dX10_thinks_52 : decode cX10_thinks 52 = .ok (.getfield 199, 3) := by decide +kernel
theorem dX10_thinks_55 : decode cX10_thinks 55 = .ok (.iload_n 1, 1) := by decide +kernel
theorem dX10_thinks_56 : decode cX10_thinks 56 = .ok (.iaload, 1) := by decide +kernel
theorem dX10_thinks_57 : decode cX10_thinks 57 = .ok (.iload 4, 2) := by decide +kernel
theorem dX10_thinks_59 : decode cX10_thinks 59 = .ok (.iand, 1) := by decide +kernel
theorem dX10_thinks_60 : decode cX10_thinks 60 = .ok (.ifCond .eq 7, 3) := by decide +kernel
theorem dX10_thinks_67 : decode cX10_thinks 67 = .ok (.iconst 0, 1) := by decide +kernel
theorem dX10_thinks_68 : decode cX10_thinks 68 = .ok (.ireturn, 1) := by decide +kernel
theorem dX10_thinks_63 : decode cX10_thinks 63 = .ok (.iconst 2, 1) := by decide +kernel
theorem dX10_thinks_64 : decode cX10_thinks 64 = .ok (.goto 4, 3) := by decide +kernel
theorem dX10_thinks_46 : decode cX10_thinks 46 = .ok (.iconst 1, 1) := by decide +kernel
theorem dX10_thinks_47 : decode cX10_thinks 47 = .ok (.ireturn, 1) := by decide +kernel
set_option maxHeartbeats 4000000 in
set_option maxRecDepth 100000 in
theorem s_X10_thinks {l : Launch} {G : Gc} (qx : Nat) (a1 : Int32) (a2 : Int32) (a3 : Int32) (qt : Nat) (qs : Nat) (qd : Nat) (qa : Nat) (qb : Nat) (qh : Nat) (qr : Nat) (qe : Nat) (qp : Nat) (qf : Nat) (qn : Nat) (qi : Nat) (qw : Nat) (qx_toldAny : Int32) (qx_lastFault : Int32) (qx_lastMoved : Int32) (qx_lastScratched : Int32) (qs_slides : Int32) (qs_hearers : Int32) (qs_nears : Int32) (qs_lines : Int32) (qs_pass : Int32) (qs_spread : Int32) (qs_lamp : Int32) (qs_behind : Int32) (qs_settingsTold : Int32) (qs_slideNames : Nat) (qs_pictures : Nat) (qs_heats : Nat) (qs_after : Nat) (qs_hearerNames : Nat) (qs_needs : Nat) (qs_likes : Nat) (qs_hates : Nat) (qs_near : Nat) (qs_likes_c : Nat → Int32) (qs_hates_c : Nat → Int32) (hi_qs_hearers : 0 ≤ qs_hearers.toInt ∧ qs_hearers.toInt ≤ 8) : Ci l yX10_thinks cX10_thinks 5 (some .int) 1 0 0 G [.ref qx, .int a1, .int a2, .int a3] [(qx, .inr (9, [.ref qt, .ref qs, .ref qd, .ref qa, .ref qb, .ref qh, .ref qr, .ref qe, .ref qp, .ref qf, .ref qn, .ref qi, .ref qw, .int qx_toldAny, .int qx_lastFault, .int qx_lastMoved, .int qx_lastScratched])), (qs, .inr (4, [.int qs_slides, .int qs_hearers, .int qs_nears, .int qs_lines, .int qs_pass, .int qs_spread, .int qs_lamp, .int qs_behind, .int qs_settingsTold, .ref qs_slideNames, .ref qs_pictures, .ref qs_heats, .ref qs_after, .ref qs_hearerNames, .ref qs_needs, .ref qs_likes, .ref qs_hates, .ref qs_near])), (qs_likes, eI G 8 qs_likes_c), (qs_hates, eI G 8 qs_hates_c)] (fun (r9 : Int32) (u9 : va_W) => ∃ (r_x : Int32), r9 = r_x ∧ u9 = [(qx, .inr (9, [.ref qt, .ref qs, .ref qd, .ref qa, .ref qb, .ref qh, .ref qr, .ref qe, .ref qp, .ref qf, .ref qn, .ref qi, .ref qw, .int qx_toldAny, .int qx_lastFault, .int qx_lastMoved, .int qx_lastScratched])), (qs, .inr (4, [.int qs_slides, .int qs_hearers, .int qs_nears, .int qs_lines, .int qs_pass, .int qs_spread, .int qs_lamp, .int qs_behind, .int qs_settingsTold, .ref qs_slideNames, .ref qs_pictures, .ref qs_heats, .ref qs_after, .ref qs_hearerNames, .ref qs_needs, .ref qs_likes, .ref qs_hates, .ref qs_near])), (qs_likes, eI G 8 qs_likes_c), (qs_hates, eI G 8 qs_hates_c)] ∧ ((-1) ≤ r_x.toInt ∧ r_x.toInt ≤ 2)) := by
  refine Ci.ofQ (by decide) (Nat.le_of_ble_eq_true rfl) ?_
  intro p e s m below meth c ls A args Q hQ B hw hl
  have C : CallFix p m c cX10_thinks 5 s args gw "LanternState" := B.1
  have hl : lv_has ls 5 [(0, .ref qx), (1, .int a1), (2, .int a2), (3, .int a3)] := hl
  refine lv_aload_n C.1 C.2.1 dX10_thinks_0 rfl (lv_at hl 0 rfl) ?_
  refine lv_iload_n C.1 C.2.1 dX10_thinks_1 rfl (lv_at hl 1 rfl) ?_
  refine x_calliV (As := [.int a1]) (rest := []) (wr := [(qs_likes, eI G 8 qs_likes_c), (qs_hates, eI G 8 qs_hates_c)]) C hw (s_X10_isHearer qx a1 qt qs qd qa qb qh qr qe qp qf qn qi qw qx_toldAny qx_lastFault qx_lastMoved qx_lastScratched qs_slides qs_hearers qs_nears qs_lines qs_pass qs_spread qs_lamp qs_behind qs_settingsTold qs_slideNames qs_pictures qs_heats qs_after qs_hearerNames qs_needs qs_likes qs_hates qs_near (by omega)) mwX10_isHearer kw677 [0, 1] [2, 3] rfl rfl rfl rfl (by decide) 0 rfl rfl rfl rfl hl.1 rfl (Nat.le_of_ble_eq_true rfl) ⟨(Nat.le_of_ble_eq_true rfl), (Nat.le_of_ble_eq_true rfl)⟩ ⟨(Nat.le_of_ble_eq_true rfl), (Nat.le_of_ble_eq_true rfl)⟩ dX10_thinks_2 (fun r1 u9 H locs hp9 hw => ?_)
  rcases hp9 with ⟨rfl, rfl, hf2⟩ | ⟨rfl, rfl, hf3, hf4⟩
  · skip
    have hw : Wd G s A [(qs_likes, eI G 8 qs_likes_c), (qs_hates, eI G 8 qs_hates_c), (qx, .inr (9, [.ref qt, .ref qs, .ref qd, .ref qa, .ref qb, .ref qh, .ref qr, .ref qe, .ref qp, .ref qf, .ref qn, .ref qi, .ref qw, .int qx_toldAny, .int qx_lastFault, .int qx_lastMoved, .int qx_lastScratched])), (qs, .inr (4, [.int qs_slides, .int qs_hearers, .int qs_nears, .int qs_lines, .int qs_pass, .int qs_spread, .int qs_lamp, .int qs_behind, .int qs_settingsTold, .ref qs_slideNames, .ref qs_pictures, .ref qs_heats, .ref qs_after, .ref qs_hearerNames, .ref qs_needs, .ref qs_likes, .ref qs_hates, .ref qs_near]))] H _ := hw
    refine lv_if_eq (tgt := 22) C.1 C.2.1 dX10_thinks_5 (by decide) (fun _ => ?_) (fun h9 => absurd (by decide) h9)
    refine lv_iconst (v := (-1)) C.1 C.2.1 dX10_thinks_22 (by decide) ?_
    have hw := hw.sub (w' := [(qx, .inr (9, [.ref qt, .ref qs, .ref qd, .ref qa, .ref qb, .ref qh, .ref qr, .ref qe, .ref qp, .ref qf, .ref qn, .ref qi, .ref qw, .int qx_toldAny, .int qx_lastFault, .int qx_lastMoved, .int qx_lastScratched])), (qs, .inr (4, [.int qs_slides, .int qs_hearers, .int qs_nears, .int qs_lines, .int qs_pass, .int qs_spread, .int qs_lamp, .int qs_behind, .int qs_settingsTold, .ref qs_slideNames, .ref qs_pictures, .ref qs_heats, .ref qs_after, .ref qs_hearerNames, .ref qs_needs, .ref qs_likes, .ref qs_hates, .ref qs_near])), (qs_likes, eI G 8 qs_likes_c), (qs_hates, eI G 8 qs_hates_c)]) [2, 3, 0, 1] rfl rfl
    exact x_retiQ hQ B hw ⟨(-1), rfl, rfl, (by decide)⟩ (Nat.le_of_ble_eq_true rfl) (Nat.le_of_ble_eq_true rfl) dX10_thinks_23
  · skip
    have hw : Wd G s A [(qs_likes, eI G 8 qs_likes_c), (qs_hates, eI G 8 qs_hates_c), (qx, .inr (9, [.ref qt, .ref qs, .ref qd, .ref qa, .ref qb, .ref qh, .ref qr, .ref qe, .ref qp, .ref qf, .ref qn, .ref qi, .ref qw, .int qx_toldAny, .int qx_lastFault, .int qx_lastMoved, .int qx_lastScratched])), (qs, .inr (4, [.int qs_slides, .int qs_hearers, .int qs_nears, .int qs_lines, .int qs_pass, .int qs_spread, .int qs_lamp, .int qs_behind, .int qs_settingsTold, .ref qs_slideNames, .ref qs_pictures, .ref qs_heats, .ref qs_after, .ref qs_hearerNames, .ref qs_needs, .ref qs_likes, .ref qs_hates, .ref qs_near]))] H _ := hw
    refine lv_if_eq (tgt := 22) C.1 C.2.1 dX10_thinks_5 (by decide) (fun h9 => absurd h9 (by decide)) (fun _ => ?_)
    refine lv_iload_n C.1 C.2.1 dX10_thinks_8 rfl (lv_at hl 2 rfl) ?_
    refine x_calliS (As := [.int a2]) (rest := []) (wr := [(qs_likes, eI G 8 qs_likes_c), (qs_hates, eI G 8 qs_hates_c), (qx, .inr (9, [.ref qt, .ref qs, .ref qd, .ref qa, .ref qb, .ref qh, .ref qr, .ref qe, .ref qp, .ref qf, .ref qn, .ref qi, .ref qw, .int qx_toldAny, .int qx_lastFault, .int qx_lastMoved, .int qx_lastScratched])), (qs, .inr (4, [.int qs_slides, .int qs_hearers, .int qs_nears, .int qs_lines, .int qs_pass, .int qs_spread, .int qs_lamp, .int qs_behind, .int qs_settingsTold, .ref qs_slideNames, .ref qs_pictures, .ref qs_heats, .ref qs_after, .ref qs_hearerNames, .ref qs_needs, .ref qs_likes, .ref qs_hates, .ref qs_near]))]) C hw (s_X10_isPlace a2) mwX10_isPlace kw659 [] [0, 1, 2, 3] rfl rfl rfl rfl (by decide) rfl hl.1 rfl (Nat.le_of_ble_eq_true rfl) ⟨(Nat.le_of_ble_eq_true rfl), (Nat.le_of_ble_eq_true rfl)⟩ ⟨(Nat.le_of_ble_eq_true rfl), (Nat.le_of_ble_eq_true rfl)⟩ dX10_thinks_9 (fun r5 u9 H locs hp9 hw => ?_)
    rcases hp9 with ⟨rfl, rfl⟩ | ⟨rfl, rfl, hf6⟩
    · skip
      have hw : Wd G s A [(qs_likes, eI G 8 qs_likes_c), (qs_hates, eI G 8 qs_hates_c), (qx, .inr (9, [.ref qt, .ref qs, .ref qd, .ref qa, .ref qb, .ref qh, .ref qr, .ref qe, .ref qp, .ref qf, .ref qn, .ref qi, .ref qw, .int qx_toldAny, .int qx_lastFault, .int qx_lastMoved, .int qx_lastScratched])), (qs, .inr (4, [.int qs_slides, .int qs_hearers, .int qs_nears, .int qs_lines, .int qs_pass, .int qs_spread, .int qs_lamp, .int qs_behind, .int qs_settingsTold, .ref qs_slideNames, .ref qs_pictures, .ref qs_heats, .ref qs_after, .ref qs_hearerNames, .ref qs_needs, .ref qs_likes, .ref qs_hates, .ref qs_near]))] H _ := hw
      refine lv_if_eq (tgt := 22) C.1 C.2.1 dX10_thinks_12 (by decide) (fun _ => ?_) (fun h9 => absurd (by decide) h9)
      refine lv_iconst (v := (-1)) C.1 C.2.1 dX10_thinks_22 (by decide) ?_
      have hw := hw.sub (w' := [(qx, .inr (9, [.ref qt, .ref qs, .ref qd, .ref qa, .ref qb, .ref qh, .ref qr, .ref qe, .ref qp, .ref qf, .ref qn, .ref qi, .ref qw, .int qx_toldAny, .int qx_lastFault, .int qx_lastMoved, .int qx_lastScratched])), (qs, .inr (4, [.int qs_slides, .int qs_hearers, .int qs_nears, .int qs_lines, .int qs_pass, .int qs_spread, .int qs_lamp, .int qs_behind, .int qs_settingsTold, .ref qs_slideNames, .ref qs_pictures, .ref qs_heats, .ref qs_after, .ref qs_hearerNames, .ref qs_needs, .ref qs_likes, .ref qs_hates, .ref qs_near])), (qs_likes, eI G 8 qs_likes_c), (qs_hates, eI G 8 qs_hates_c)]) [2, 3, 0, 1] rfl rfl
      exact x_retiQ hQ B hw ⟨(-1), rfl, rfl, (by decide)⟩ (Nat.le_of_ble_eq_true rfl) (Nat.le_of_ble_eq_true rfl) dX10_thinks_23
    · skip
      have hw : Wd G s A [(qs_likes, eI G 8 qs_likes_c), (qs_hates, eI G 8 qs_hates_c), (qx, .inr (9, [.ref qt, .ref qs, .ref qd, .ref qa, .ref qb, .ref qh, .ref qr, .ref qe, .ref qp, .ref qf, .ref qn, .ref qi, .ref qw, .int qx_toldAny, .int qx_lastFault, .int qx_lastMoved, .int qx_lastScratched])), (qs, .inr (4, [.int qs_slides, .int qs_hearers, .int qs_nears, .int qs_lines, .int qs_pass, .int qs_spread, .int qs_lamp, .int qs_behind, .int qs_settingsTold, .ref qs_slideNames, .ref qs_pictures, .ref qs_heats, .ref qs_after, .ref qs_hearerNames, .ref qs_needs, .ref qs_likes, .ref qs_hates, .ref qs_near]))] H _ := hw
      refine lv_if_eq (tgt := 22) C.1 C.2.1 dX10_thinks_12 (by decide) (fun h9 => absurd h9 (by decide)) (fun _ => ?_)
      refine lv_iload_n C.1 C.2.1 dX10_thinks_15 rfl (lv_at hl 3 rfl) ?_
      refine x_calliS (As := [.int a3]) (rest := []) (wr := [(qs_likes, eI G 8 qs_likes_c), (qs_hates, eI G 8 qs_hates_c), (qx, .inr (9, [.ref qt, .ref qs, .ref qd, .ref qa, .ref qb, .ref qh, .ref qr, .ref qe, .ref qp, .ref qf, .ref qn, .ref qi, .ref qw, .int qx_toldAny, .int qx_lastFault, .int qx_lastMoved, .int qx_lastScratched])), (qs, .inr (4, [.int qs_slides, .int qs_hearers, .int qs_nears, .int qs_lines, .int qs_pass, .int qs_spread, .int qs_lamp, .int qs_behind, .int qs_settingsTold, .ref qs_slideNames, .ref qs_pictures, .ref qs_heats, .ref qs_after, .ref qs_hearerNames, .ref qs_needs, .ref qs_likes, .ref qs_hates, .ref qs_near]))]) C hw (s_X10_isPlace a3) mwX10_isPlace kw659 [] [0, 1, 2, 3] rfl rfl rfl rfl (by decide) rfl hl.1 rfl (Nat.le_of_ble_eq_true rfl) ⟨(Nat.le_of_ble_eq_true rfl), (Nat.le_of_ble_eq_true rfl)⟩ ⟨(Nat.le_of_ble_eq_true rfl), (Nat.le_of_ble_eq_true rfl)⟩ dX10_thinks_16 (fun r7 u9 H locs hp9 hw => ?_)
      rcases hp9 with ⟨rfl, rfl⟩ | ⟨rfl, rfl, hf8⟩
      · skip
        have hw : Wd G s A [(qs_likes, eI G 8 qs_likes_c), (qs_hates, eI G 8 qs_hates_c), (qx, .inr (9, [.ref qt, .ref qs, .ref qd, .ref qa, .ref qb, .ref qh, .ref qr, .ref qe, .ref qp, .ref qf, .ref qn, .ref qi, .ref qw, .int qx_toldAny, .int qx_lastFault, .int qx_lastMoved, .int qx_lastScratched])), (qs, .inr (4, [.int qs_slides, .int qs_hearers, .int qs_nears, .int qs_lines, .int qs_pass, .int qs_spread, .int qs_lamp, .int qs_behind, .int qs_settingsTold, .ref qs_slideNames, .ref qs_pictures, .ref qs_heats, .ref qs_after, .ref qs_hearerNames, .ref qs_needs, .ref qs_likes, .ref qs_hates, .ref qs_near]))] H _ := hw
        refine lv_if_ne (tgt := 24) C.1 C.2.1 dX10_thinks_19 (by decide) (fun h9 => absurd (by decide) h9) (fun _ => ?_)
        refine lv_iconst (v := (-1)) C.1 C.2.1 dX10_thinks_22 (by decide) ?_
        have hw := hw.sub (w' := [(qx, .inr (9, [.ref qt, .ref qs, .ref qd, .ref qa, .ref qb, .ref qh, .ref qr, .ref qe, .ref qp, .ref qf, .ref qn, .ref qi, .ref qw, .int qx_toldAny, .int qx_lastFault, .int qx_lastMoved, .int qx_lastScratched])), (qs, .inr (4, [.int qs_slides, .int qs_hearers, .int qs_nears, .int qs_lines, .int qs_pass, .int qs_spread, .int qs_lamp, .int qs_behind, .int qs_settingsTold, .ref qs_slideNames, .ref qs_pictures, .ref qs_heats, .ref qs_after, .ref qs_hearerNames, .ref qs_needs, .ref qs_likes, .ref qs_hates, .ref qs_near])), (qs_likes, eI G 8 qs_likes_c), (qs_hates, eI G 8 qs_hates_c)]) [2, 3, 0, 1] rfl rfl
        exact x_retiQ hQ B hw ⟨(-1), rfl, rfl, (by decide)⟩ (Nat.le_of_ble_eq_true rfl) (Nat.le_of_ble_eq_true rfl) dX10_thinks_23
      · skip
        have hw : Wd G s A [(qs_likes, eI G 8 qs_likes_c), (qs_hates, eI G 8 qs_hates_c), (qx, .inr (9, [.ref qt, .ref qs, .ref qd, .ref qa, .ref qb, .ref qh, .ref qr, .ref qe, .ref qp, .ref qf, .ref qn, .ref qi, .ref qw, .int qx_toldAny, .int qx_lastFault, .int qx_lastMoved, .int qx_lastScratched])), (qs, .inr (4, [.int qs_slides, .int qs_hearers, .int qs_nears, .int qs_lines, .int qs_pass, .int qs_spread, .int qs_lamp, .int qs_behind, .int qs_settingsTold, .ref qs_slideNames, .ref qs_pictures, .ref qs_heats, .ref qs_after, .ref qs_hearerNames, .ref qs_needs, .ref qs_likes, .ref qs_hates, .ref qs_near]))] H _ := hw
        refine lv_if_ne (tgt := 24) C.1 C.2.1 dX10_thinks_19 (by decide) (fun _ => ?_) (fun h9 => absurd h9 (by decide))
        refine lv_iload_n C.1 C.2.1 dX10_thinks_24 rfl (lv_at hl 2 rfl) ?_
        refine lv_iload_n C.1 C.2.1 dX10_thinks_25 rfl (lv_at hl 3 rfl) ?_
        refine x_calliS (As := [.int a2, .int a3]) (rest := []) (wr := [(qs_likes, eI G 8 qs_likes_c), (qs_hates, eI G 8 qs_hates_c), (qx, .inr (9, [.ref qt, .ref qs, .ref qd, .ref qa, .ref qb, .ref qh, .ref qr, .ref qe, .ref qp, .ref qf, .ref qn, .ref qi, .ref qw, .int qx_toldAny, .int qx_lastFault, .int qx_lastMoved, .int qx_lastScratched])), (qs, .inr (4, [.int qs_slides, .int qs_hearers, .int qs_nears, .int qs_lines, .int qs_pass, .int qs_spread, .int qs_lamp, .int qs_behind, .int qs_settingsTold, .ref qs_slideNames, .ref qs_pictures, .ref qs_heats, .ref qs_after, .ref qs_hearerNames, .ref qs_needs, .ref qs_likes, .ref qs_hates, .ref qs_near]))]) C hw (s_X4_cell a2 a3) mwX4_cell kw681 [] [0, 1, 2, 3] rfl rfl rfl rfl (by decide) rfl hl.1 rfl (Nat.le_of_ble_eq_true rfl) ⟨(Nat.le_of_ble_eq_true rfl), (Nat.le_of_ble_eq_true rfl)⟩ ⟨(Nat.le_of_ble_eq_true rfl), (Nat.le_of_ble_eq_true rfl)⟩ dX10_thinks_26 (fun r9 u9 H locs hp9 hw => ?_)
        obtain ⟨x10, rfl, rfl⟩ := hp9
        have hw : Wd G s A [(qs_likes, eI G 8 qs_likes_c), (qs_hates, eI G 8 qs_hates_c), (qx, .inr (9, [.ref qt, .ref qs, .ref qd, .ref qa, .ref qb, .ref qh, .ref qr, .ref qe, .ref qp, .ref qf, .ref qn, .ref qi, .ref qw, .int qx_toldAny, .int qx_lastFault, .int qx_lastMoved, .int qx_lastScratched])), (qs, .inr (4, [.int qs_slides, .int qs_hearers, .int qs_nears, .int qs_lines, .int qs_pass, .int qs_spread, .int qs_lamp, .int qs_behind, .int qs_settingsTold, .ref qs_slideNames, .ref qs_pictures, .ref qs_heats, .ref qs_after, .ref qs_hearerNames, .ref qs_needs, .ref qs_likes, .ref qs_hates, .ref qs_near]))] H _ := hw
        refine lv_istore (lv' := [(4, .int r9), (0, .ref qx), (1, .int a1), (2, .int a2), (3, .int a3)]) C.1 C.2.1 dX10_thinks_29 hl (by decide) rfl (fun ls hl => ?_)
        refine lv_aload_n C.1 C.2.1 dX10_thinks_31 rfl (lv_at hl 1 rfl) ?_
        refine x_get C hw iwX10 9 rfl 2 rfl 1 (by decide) kw447 rfl dX10_thinks_32 ?_
        refine x_get C hw iwX5 4 rfl 3 rfl 15 (by decide) kw188 rfl dX10_thinks_35 ?_
        refine lv_iload_n C.1 C.2.1 dX10_thinks_38 rfl (lv_at hl 2 rfl) ?_
        refine x_iald (v := (qs_likes_c a1.toNatClampNeg)) C hw 0 rfl (i_in (by omega) (by omega)) rfl dX10_thinks_39 (x_gen (fun v11 => ?_))
        refine lv_iload C.1 C.2.1 dX10_thinks_40 (lv_at hl 0 rfl) ?_
        refine lv_iand C.1 C.2.1 dX10_thinks_42 (x_gen (fun v12 => ?_))
        refine lv_if_eq (tgt := 48) C.1 C.2.1 dX10_thinks_43 (by decide) (fun c13 => ?_) (fun c13 => ?_)
        · skip
          have c13 : v12.toInt = 0 := i_eqT (X := v12.toInt) (Y := 0) rfl rfl c13
          have bc13_v12 := i_bd v12
          refine lv_aload_n C.1 C.2.1 dX10_thinks_48 rfl (lv_at hl 1 rfl) ?_
          refine x_get C hw iwX10 9 rfl 2 rfl 1 (by decide) kw447 rfl dX10_thinks_49 ?_
          refine x_get C hw iwX5 4 rfl 3 rfl 16 (by decide) kw190 rfl dX10_thinks_52 ?_
          refine lv_iload_n C.1 C.2.1 dX10_thinks_55 rfl (lv_at hl 2 rfl) ?_
          refine x_iald (v := (qs_hates_c a1.toNatClampNeg)) C hw 1 rfl (i_in (by omega) (by omega)) rfl dX10_thinks_56 (x_gen (fun v14 => ?_))
          refine lv_iload C.1 C.2.1 dX10_thinks_57 (lv_at hl 0 rfl) ?_
          refine lv_iand C.1 C.2.1 dX10_thinks_59 (x_gen (fun v15 => ?_))
          refine lv_if_eq (tgt := 67) C.1 C.2.1 dX10_thinks_60 (by decide) (fun c16 => ?_) (fun c16 => ?_)
          · skip
            have c16 : v15.toInt = 0 := i_eqT (X := v15.toInt) (Y := 0) rfl rfl c16
            have bc16_v15 := i_bd v15
            refine lv_iconst (v := 0) C.1 C.2.1 dX10_thinks_67 (by decide) ?_
            have hw := hw.sub (w' := [(qx, .inr (9, [.ref qt, .ref qs, .ref qd, .ref qa, .ref qb, .ref qh, .ref qr, .ref qe, .ref qp, .ref qf, .ref qn, .ref qi, .ref qw, .int qx_toldAny, .int qx_lastFault, .int qx_lastMoved, .int qx_lastScratched])), (qs, .inr (4, [.int qs_slides, .int qs_hearers, .int qs_nears, .int qs_lines, .int qs_pass, .int qs_spread, .int qs_lamp, .int qs_behind, .int qs_settingsTold, .ref qs_slideNames, .ref qs_pictures, .ref qs_heats, .ref qs_after, .ref qs_hearerNames, .ref qs_needs, .ref qs_likes, .ref qs_hates, .ref qs_near])), (qs_likes, eI G 8 qs_likes_c), (qs_hates, eI G 8 qs_hates_c)]) [2, 3, 0, 1] rfl rfl
            exact x_retiQ hQ B hw ⟨0, rfl, rfl, (by decide)⟩ (Nat.le_of_ble_eq_true rfl) (Nat.le_of_ble_eq_true rfl) dX10_thinks_68
          · skip
            have c16 : v15.toInt ≠ 0 := i_eqF (X := v15.toInt) (Y := 0) rfl rfl c16
            have bc16_v15 := i_bd v15
            refine lv_iconst (v := 2) C.1 C.2.1 dX10_thinks_63 (by decide) ?_
            refine lv_goto (tgt := 68) C.1 C.2.1 dX10_thinks_64 (by decide) ?_
            have hw := hw.sub (w' := [(qx, .inr (9, [.ref qt, .ref qs, .ref qd, .ref qa, .ref qb, .ref qh, .ref qr, .ref qe, .ref qp, .ref qf, .ref qn, .ref qi, .ref qw, .int qx_toldAny, .int qx_lastFault, .int qx_lastMoved, .int qx_lastScratched])), (qs, .inr (4, [.int qs_slides, .int qs_hearers, .int qs_nears, .int qs_lines, .int qs_pass, .int qs_spread, .int qs_lamp, .int qs_behind, .int qs_settingsTold, .ref qs_slideNames, .ref qs_pictures, .ref qs_heats, .ref qs_after, .ref qs_hearerNames, .ref qs_needs, .ref qs_likes, .ref qs_hates, .ref qs_near])), (qs_likes, eI G 8 qs_likes_c), (qs_hates, eI G 8 qs_hates_c)]) [2, 3, 0, 1] rfl rfl
            exact x_retiQ hQ B hw ⟨2, rfl, rfl, (by decide)⟩ (Nat.le_of_ble_eq_true rfl) (Nat.le_of_ble_eq_true rfl) dX10_thinks_68
        · skip
          have c13 : v12.toInt ≠ 0 := i_eqF (X := v12.toInt) (Y := 0) rfl rfl c13
          have bc13_v12 := i_bd v12
          refine lv_iconst (v := 1) C.1 C.2.1 dX10_thinks_46 (by decide) ?_
          have hw := hw.sub (w' := [(qx, .inr (9, [.ref qt, .ref qs, .ref qd, .ref qa, .ref qb, .ref qh, .ref qr, .ref qe, .ref qp, .ref qf, .ref qn, .ref qi, .ref qw, .int qx_toldAny, .int qx_lastFault, .int qx_lastMoved, .int qx_lastScratched])), (qs, .inr (4, [.int qs_slides, .int qs_hearers, .int qs_nears, .int qs_lines, .int qs_pass, .int qs_spread, .int qs_lamp, .int qs_behind, .int qs_settingsTold, .ref qs_slideNames, .ref qs_pictures, .ref qs_heats, .ref qs_after, .ref qs_hearerNames, .ref qs_needs, .ref qs_likes, .ref qs_hates, .ref qs_near])), (qs_likes, eI G 8 qs_likes_c), (qs_hates, eI G 8 qs_hates_c)]) [2, 3, 0, 1] rfl rfl
          exact x_retiQ hQ B hw ⟨1, rfl, rfl, (by decide)⟩ (Nat.le_of_ble_eq_true rfl) (Nat.le_of_ble_eq_true rfl) dX10_thinks_47
theorem dX10_now_0 : decode cX10_now 0 = .ok (.iload_n 1, 1) := by decide +kernel
theorem dX10_now_1 : decode cX10_now 1 = .ok (.tableswitch 107 0 6 #[43, 51, 59, 75, 83, 91, 99], 43) := by decide +kernel
theorem dX10_now_44 : decode cX10_now 44 = .ok (.aload_n 0, 1) := by decide +kernel
theorem dX10_now_45 : decode cX10_now 45 = .ok (.getfield 29, 3) := by decide +kernel
theorem dX10_now_48 : decode cX10_now 48 = .ok (.getfield 214, 3) := by decide +kernel
theorem dX10_now_51 : decode cX10_now 51 = .ok (.ireturn, 1) := by decide +kernel
theorem dX10_now_52 : decode cX10_now 52 = .ok (.aload_n 0, 1) := by decide +kernel
theorem dX10_now_53 : decode cX10_now 53 = .ok (.getfield 29, 3) := by decide +kernel
theorem dX10_now_56 : decode cX10_now 56 = .ok (.getfield 217, 3) := by decide +kernel
theorem dX10_now_59 : decode cX10_now 59 = .ok (.ireturn, 1) := by decide +kernel
theorem dX10_now_60 : decode cX10_now 60 = .ok (.aload_n 0, 1) := by decide +kernel
theorem dX10_now_61 : decode cX10_now 61 = .ok (.getfield 29, 3) := by decide +kernel
theorem dX10_now_64 : decode cX10_now 64 = .ok (.getfield 220, 3) := by decide +kernel
theorem dX10_now_67 : decode cX10_now 67 = .ok (.ifCond .eq 7, 3) := by decide +kernel
theorem dX10_now_74 : decode cX10_now 74 = .ok (.iconst 0, 1) := by decide +kernel
theorem dX10_now_75 : decode cX10_now 75 = .ok (.ireturn, 1) := by decide +kernel
theorem dX10_now_70 : decode cX10_now 70 = .ok (.iconst 1, 1) := by decide +kernel
theorem dX10_now_71 : decode cX10_now 71 = .ok (.goto 4, 3) := by decide +kernel
theorem dX10_now_76 : decode cX10_now 76 = .ok (.aload_n 0, 1) := by decide +kernel
theorem dX10_now_77 : decode cX10_now 77 = .ok (.getfield 29, 3) := by decide +kernel
theorem dX10_now_80 : decode cX10_now 80 = .ok (.getfield 149, 3) := by decide +kernel
theorem dX10_now_83 : decode cX10_now 83 = .ok (.ireturn, 1) := by decide +kernel
theorem dX10_now_84 : decode cX10_now 84 = .ok (.aload_n 0, 1) := by decide +kernel
theorem dX10_now_85 : decode cX10_now 85 = .ok (.getfield 29, 3) := by decide +kernel
theorem dX10_now_88 : decode cX10_now 88 = .ok (.getfield 152, 3) := by decide +kernel
theorem dX10_now_91 : decode cX10_now 91 = .ok (.ireturn, 1) := by decide +kernel
theorem dX10_now_92 : decode cX10_now 92 = .ok (.aload_n 0, 1) := by decide +kernel
theorem dX10_now_93 : decode cX10_now 93 = .ok (.getfield 29, 3) := by decide +kernel
theorem dX10_now_96 : decode cX10_now 96 = .ok (.getfield 208, 3) := by decide +kernel
theorem dX10_now_99 : decode cX10_now 99 = .ok (.ireturn, 1) := by decide +kernel
theorem dX10_now_100 : decode cX10_now 100 = .ok (.aload_n 0, 1) := by decide +kernel
theorem dX10_now_101 : decode cX10_now 101 = .ok (.getfield 29, 3) := by decide +kernel
theorem dX10_now_104 : decode cX10_now 104 = .ok (.getfield 223, 3) := by decide +kernel
theorem dX10_now_107 : decode cX10_now 107 = .ok (.ireturn, 1) := by decide +kernel
theorem dX10_now_108 : decode cX10_now 108 = .ok (.iconst (-1), 1) := by decide +kernel
theorem dX10_now_109 : decode cX10_now 109 = .ok (.ireturn, 1) := by decide +kernel
set_option maxHeartbeats 4000000 in
set_option maxRecDepth 100000 in
theorem s_X10_now {l : Launch} {G : Gc} (qx : Nat) (a1 : Int32) (qt : Nat) (qs : Nat) (qd : Nat) (qa : Nat) (qb : Nat) (qh : Nat) (qr : Nat) (qe : Nat) (qp : Nat) (qf : Nat) (qn : Nat) (qi : Nat) (qw : Nat) (qx_toldAny : Int32) (qx_lastFault : Int32) (qx_lastMoved : Int32) (qx_lastScratched : Int32) (qa_hour : Int32) (qa_heat : Int32) (qa_black : Int32) (qa_so : Int32) (qa_cracked : Int32) (qa_behind : Int32) (qa_allSighs : Int32) (qa_seed : Int32) (qa_pictures : Nat) (qa_shown : Nat) (qa_sighed : Nat) (hi_qa_black : 0 ≤ qa_black.toInt ∧ qa_black.toInt ≤ 1) : Ci l yX10_now cX10_now 2 (some .int) 0 0 0 G [.ref qx, .int a1] [(qx, .inr (9, [.ref qt, .ref qs, .ref qd, .ref qa, .ref qb, .ref qh, .ref qr, .ref qe, .ref qp, .ref qf, .ref qn, .ref qi, .ref qw, .int qx_toldAny, .int qx_lastFault, .int qx_lastMoved, .int qx_lastScratched])), (qa, .inr (7, [.int qa_hour, .int qa_heat, .int qa_black, .int qa_so, .int qa_cracked, .int qa_behind, .int qa_allSighs, .int qa_seed, .ref qa_pictures, .ref qa_shown, .ref qa_sighed]))] (fun (r9 : Int32) (u9 : va_W) => ∃ (r_x : Int32), r9 = r_x ∧ u9 = [(qx, .inr (9, [.ref qt, .ref qs, .ref qd, .ref qa, .ref qb, .ref qh, .ref qr, .ref qe, .ref qp, .ref qf, .ref qn, .ref qi, .ref qw, .int qx_toldAny, .int qx_lastFault, .int qx_lastMoved, .int qx_lastScratched])), (qa, .inr (7, [.int qa_hour, .int qa_heat, .int qa_black, .int qa_so, .int qa_cracked, .int qa_behind, .int qa_allSighs, .int qa_seed, .ref qa_pictures, .ref qa_shown, .ref qa_sighed]))]) := by
  refine Ci.ofQ (by decide) (Nat.le_of_ble_eq_true rfl) ?_
  intro p e s m below meth c ls A args Q hQ B hw hl
  have C : CallFix p m c cX10_now 2 s args gw "LanternState" := B.1
  have hl : lv_has ls 2 [(0, .ref qx), (1, .int a1)] := hl
  refine lv_iload_n C.1 C.2.1 dX10_now_0 rfl (lv_at hl 1 rfl) ?_
  have k1 : a1.toInt = 0 ∨ a1.toInt = 1 ∨ a1.toInt = 2 ∨ a1.toInt = 3 ∨ a1.toInt = 4 ∨ a1.toInt = 5 ∨ a1.toInt = 6 ∨ (a1.toInt ≠ 0 ∧ a1.toInt ≠ 1 ∧ a1.toInt ≠ 2 ∧ a1.toInt ≠ 3 ∧ a1.toInt ≠ 4 ∧ a1.toInt ≠ 5 ∧ a1.toInt ≠ 6) := by omega
  rcases k1 with k1 | k1 | k1 | k1 | k1 | k1 | k1 | k1
  · skip
    have k1 : a1 = 0 := Int32.toInt_inj.mp (by rw [k1]; rfl)
    refine x_topi (z := 0) k1 ?_
    refine lv_tableIn (off := 43) (tgt := 44) C.1 C.2.1 dX10_now_1 (by decide) (by decide) rfl (by decide) ?_
    have ha1_ := congrArg Int32.toInt k1
    have ha1_ : a1.toInt = 0 := ha1_
    refine lv_aload_n C.1 C.2.1 dX10_now_44 rfl (lv_at hl 0 rfl) ?_
    refine x_get C hw iwX10 9 rfl 0 rfl 3 (by decide) kw449 rfl dX10_now_45 ?_
    refine x_get C hw iwX8 7 rfl 1 rfl 0 (by decide) kw239 rfl dX10_now_48 ?_
    exact x_retiQ hQ B hw ⟨qa_hour, rfl, rfl⟩ (Nat.le_of_ble_eq_true rfl) (Nat.le_of_ble_eq_true rfl) dX10_now_51
  · skip
    have k1 : a1 = 1 := Int32.toInt_inj.mp (by rw [k1]; rfl)
    refine x_topi (z := 1) k1 ?_
    refine lv_tableIn (off := 51) (tgt := 52) C.1 C.2.1 dX10_now_1 (by decide) (by decide) rfl (by decide) ?_
    have ha1_ := congrArg Int32.toInt k1
    have ha1_ : a1.toInt = 1 := ha1_
    refine lv_aload_n C.1 C.2.1 dX10_now_52 rfl (lv_at hl 0 rfl) ?_
    refine x_get C hw iwX10 9 rfl 0 rfl 3 (by decide) kw449 rfl dX10_now_53 ?_
    refine x_get C hw iwX8 7 rfl 1 rfl 1 (by decide) kw242 rfl dX10_now_56 ?_
    exact x_retiQ hQ B hw ⟨qa_heat, rfl, rfl⟩ (Nat.le_of_ble_eq_true rfl) (Nat.le_of_ble_eq_true rfl) dX10_now_59
  · skip
    have k1 : a1 = 2 := Int32.toInt_inj.mp (by rw [k1]; rfl)
    refine x_topi (z := 2) k1 ?_
    refine lv_tableIn (off := 59) (tgt := 60) C.1 C.2.1 dX10_now_1 (by decide) (by decide) rfl (by decide) ?_
    have ha1_ := congrArg Int32.toInt k1
    have ha1_ : a1.toInt = 2 := ha1_
    refine lv_aload_n C.1 C.2.1 dX10_now_60 rfl (lv_at hl 0 rfl) ?_
    refine x_get C hw iwX10 9 rfl 0 rfl 3 (by decide) kw449 rfl dX10_now_61 ?_
    refine x_get C hw iwX8 7 rfl 1 rfl 2 (by decide) kw245 rfl dX10_now_64 ?_
    refine lv_if_eq (tgt := 74) C.1 C.2.1 dX10_now_67 (by decide) (fun c2 => ?_) (fun c2 => ?_)
    · skip
      have c2 : qa_black.toInt = 0 := i_eqT (X := qa_black.toInt) (Y := 0) rfl rfl c2
      refine lv_iconst (v := 0) C.1 C.2.1 dX10_now_74 (by decide) ?_
      exact x_retiQ hQ B hw ⟨0, rfl, rfl⟩ (Nat.le_of_ble_eq_true rfl) (Nat.le_of_ble_eq_true rfl) dX10_now_75
    · skip
      have c2 : qa_black.toInt ≠ 0 := i_eqF (X := qa_black.toInt) (Y := 0) rfl rfl c2
      refine lv_iconst (v := 1) C.1 C.2.1 dX10_now_70 (by decide) ?_
      refine lv_goto (tgt := 75) C.1 C.2.1 dX10_now_71 (by decide) ?_
      exact x_retiQ hQ B hw ⟨1, rfl, rfl⟩ (Nat.le_of_ble_eq_true rfl) (Nat.le_of_ble_eq_true rfl) dX10_now_75
  · skip
    have k1 : a1 = 3 := Int32.toInt_inj.mp (by rw [k1]; rfl)
    refine x_topi (z := 3) k1 ?_
    refine lv_tableIn (off := 75) (tgt := 76) C.1 C.2.1 dX10_now_1 (by decide) (by decide) rfl (by decide) ?_
    have ha1_ := congrArg Int32.toInt k1
    have ha1_ : a1.toInt = 3 := ha1_
    refine lv_aload_n C.1 C.2.1 dX10_now_76 rfl (lv_at hl 0 rfl) ?_
    refine x_get C hw iwX10 9 rfl 0 rfl 3 (by decide) kw449 rfl dX10_now_77 ?_
    refine x_get C hw iwX8 7 rfl 1 rfl 3 (by decide) kw249 rfl dX10_now_80 ?_
    exact x_retiQ hQ B hw ⟨qa_so, rfl, rfl⟩ (Nat.le_of_ble_eq_true rfl) (Nat.le_of_ble_eq_true rfl) dX10_now_83
  · skip
    have k1 : a1 = 4 := Int32.toInt_inj.mp (by rw [k1]; rfl)
    refine x_topi (z := 4) k1 ?_
    refine lv_tableIn (off := 83) (tgt := 84) C.1 C.2.1 dX10_now_1 (by decide) (by decide) rfl (by decide) ?_
    have ha1_ := congrArg Int32.toInt k1
    have ha1_ : a1.toInt = 4 := ha1_
    refine lv_aload_n C.1 C.2.1 dX10_now_84 rfl (lv_at hl 0 rfl) ?_
    refine x_get C hw iwX10 9 rfl 0 rfl 3 (by decide) kw449 rfl dX10_now_85 ?_
    refine x_get C hw iwX8 7 rfl 1 rfl 4 (by decide) kw254 rfl dX10_now_88 ?_
    exact x_retiQ hQ B hw ⟨qa_cracked, rfl, rfl⟩ (Nat.le_of_ble_eq_true rfl) (Nat.le_of_ble_eq_true rfl) dX10_now_91
  · skip
    have k1 : a1 = 5 := Int32.toInt_inj.mp (by rw [k1]; rfl)
    refine x_topi (z := 5) k1 ?_
    refine lv_tableIn (off := 91) (tgt := 92) C.1 C.2.1 dX10_now_1 (by decide) (by decide) rfl (by decide) ?_
    have ha1_ := congrArg Int32.toInt k1
    have ha1_ : a1.toInt = 5 := ha1_
    refine lv_aload_n C.1 C.2.1 dX10_now_92 rfl (lv_at hl 0 rfl) ?_
    refine x_get C hw iwX10 9 rfl 0 rfl 3 (by decide) kw449 rfl dX10_now_93 ?_
    refine x_get C hw iwX8 7 rfl 1 rfl 5 (by decide) kw258 rfl dX10_now_96 ?_
    exact x_retiQ hQ B hw ⟨qa_behind, rfl, rfl⟩ (Nat.le_of_ble_eq_true rfl) (Nat.le_of_ble_eq_true rfl) dX10_now_99
  · skip
    have k1 : a1 = 6 := Int32.toInt_inj.mp (by rw [k1]; rfl)
    refine x_topi (z := 6) k1 ?_
    refine lv_tableIn (off := 99) (tgt := 100) C.1 C.2.1 dX10_now_1 (by decide) (by decide) rfl (by decide) ?_
    have ha1_ := congrArg Int32.toInt k1
    have ha1_ : a1.toInt = 6 := ha1_
    refine lv_aload_n C.1 C.2.1 dX10_now_100 rfl (lv_at hl 0 rfl) ?_
    refine x_get C hw iwX10 9 rfl 0 rfl 3 (by decide) kw449 rfl dX10_now_101 ?_
    refine x_get C hw iwX8 7 rfl 1 rfl 6 (by decide) kw261 rfl dX10_now_104 ?_
    exact x_retiQ hQ B hw ⟨qa_allSighs, rfl, rfl⟩ (Nat.le_of_ble_eq_true rfl) (Nat.le_of_ble_eq_true rfl) dX10_now_107
  · skip
    refine lv_tableOut (tgt := 108) C.1 C.2.1 dX10_now_1 (by omega) (by decide) ?_
    refine lv_iconst (v := (-1)) C.1 C.2.1 dX10_now_108 (by decide) ?_
    exact x_retiQ hQ B hw ⟨(-1), rfl, rfl⟩ (Nat.le_of_ble_eq_true rfl) (Nat.le_of_ble_eq_true rfl) dX10_now_109
