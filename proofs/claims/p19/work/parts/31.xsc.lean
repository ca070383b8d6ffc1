theorem dX5_findSlide_0 : decode cX5_findSlide 0 = .ok (.iconst 0, 1) := by decide +kernel
theorem dX5_findSlide_1 : decode cX5_findSlide 1 = .ok (.istore_n 3, 1) := by decide +kernel
theorem dX5_findSlide_2 : decode cX5_findSlide 2 = .ok (.iload_n 3, 1) := by decide +kernel
theorem dX5_findSlide_3 : decode cX5_findSlide 3 = .ok (.aload_n 0, 1) := by decide +kernel
theorem dX5_findSlide_4 : decode cX5_findSlide 4 = .ok (.getfield 47, 3) := by decide +kernel
theorem dX5_findSlide_7 : decode cX5_findSlide 7 = .ok (.if_icmp .ge 22, 3) := by decide +kernel
theorem dX5_findSlide_29 : decode cX5_findSlide 29 = .ok (.iconst (-1), 1) := by decide +kernel
theorem dX5_findSlide_30 : decode cX5_findSlide 30 = .ok (.ireturn, 1) := by decide +kernel
theorem dX5_findSlide_10 : decode cX5_findSlide 10 = .ok (.aload_n 0, 1) := by decide +kernel
theorem dX5_findSlide_11 : decode cX5_findSlide 11 = .ok (.getfield 18, 3) := by decide +kernel
theorem dX5_findSlide_14 : decode cX5_findSlide 14 = .ok (.iload_n 3, 1) := by decide +kernel
theorem dX5_findSlide_15 : decode cX5_findSlide 15 = .ok (.laload, 1) := by decide +kernel
theorem dX5_findSlide_16 : decode cX5_findSlide 16 = .ok (.lload_n 1, 1) := by decide +kernel
theorem dX5_findSlide_17 : decode cX5_findSlide 17 = .ok (.lcmp, 1) := by decide +kernel
theorem dX5_findSlide_18 : decode cX5_findSlide 18 = .ok (.ifCond .ne 5, 3) := by decide +kernel
theorem dX5_findSlide_23 : decode cX5_findSlide 23 = .ok (.iinc 3 1, 3) := by decide +kernel
theorem dX5_findSlide_26 : decode cX5_findSlide 26 = .ok (.goto (-24), 3) := by decide +kernel
theorem dX5_findSlide_21 : decode cX5_findSlide 21 = .ok (.iload_n 3, 1) := by decide +kernel
theorem dX5_findSlide_22 : decode cX5_findSlide 22 = .ok (.ireturn, 1) := by decide +kernel
set_option maxHeartbeats 4000000 in
set_option maxRecDepth 100000 in
theorem e_X5_findSlide {l : Launch} {G : Gc} (qs : Nat) (a1 : Int64) (qs_slides : Int32) (qs_hearers : Int32) (qs_nears : Int32) (qs_lines : Int32) (qs_pass : Int32) (qs_spread : Int32) (qs_lamp : Int32) (qs_behind : Int32) (qs_settingsTold : Int32) (qs_slideNames : Nat) (qs_pictures : Nat) (qs_heats : Nat) (qs_after : Nat) (qs_hearerNames : Nat) (qs_needs : Nat) (qs_likes : Nat) (qs_hates : Nat) (qs_near : Nat) (qs_slideNames_c : Nat → Int64) (hi_qs_slides : 0 ≤ qs_slides.toInt ∧ qs_slides.toInt ≤ 6) : Ci l yX5_findSlide cX5_findSlide 4 (some .int) 0 0 0 G [.ref qs, .long a1] [(qs, .inr (4, [.int qs_slides, .int qs_hearers, .int qs_nears, .int qs_lines, .int qs_pass, .int qs_spread, .int qs_lamp, .int qs_behind, .int qs_settingsTold, .ref qs_slideNames, .ref qs_pictures, .ref qs_heats, .ref qs_after, .ref qs_hearerNames, .ref qs_needs, .ref qs_likes, .ref qs_hates, .ref qs_near])), (qs_slideNames, eJ G 6 qs_slideNames_c)] (fun (r9 : Int32) (u9 : va_W) => ∃ (r_x : Int32), r9 = r_x ∧ u9 = [(qs, .inr (4, [.int qs_slides, .int qs_hearers, .int qs_nears, .int qs_lines, .int qs_pass, .int qs_spread, .int qs_lamp, .int qs_behind, .int qs_settingsTold, .ref qs_slideNames, .ref qs_pictures, .ref qs_heats, .ref qs_after, .ref qs_hearerNames, .ref qs_needs, .ref qs_likes, .ref qs_hates, .ref qs_near])), (qs_slideNames, eJ G 6 qs_slideNames_c)] ∧ ((-1) ≤ r_x.toInt ∧ r_x.toInt ≤ 5) ∧ (r_x.toInt = fd (fun k9 => (qs_slideNames_c k9).toInt) (qs_slides.toInt).toNat a1.toInt)) := by
  refine Ci.ofQ (by decide) (Nat.le_of_ble_eq_true rfl) ?_
  intro p e s m below meth c ls A args Q hQ B hw hl
  have C : CallFix p m c cX5_findSlide 4 s args gw "LanternState$Scene" := B.1
  have hl : lv_has ls 4 [(0, .ref qs), (1, .long a1)] := hl
  refine lv_iconst (v := 0) C.1 C.2.1 dX5_findSlide_0 (by decide) ?_
  refine lv_istore_n (lv' := [(3, .int 0), (0, .ref qs), (1, .long a1)]) C.1 C.2.1 dX5_findSlide_1 rfl hl (by decide) rfl (fun ls hl => ?_)
  have loopJ54 : ∀ (n9 : Nat) (j53 : Int32), (2147483647 - j53.toInt).toNat < n9 → (fdF (fun k9 => (qs_slideNames_c k9).toInt) a1.toInt (qs_slides.toInt - j53.toInt).toNat (j53.toInt).toNat = fd (fun k9 => (qs_slideNames_c k9).toInt) (qs_slides.toInt).toNat a1.toInt) → (0 ≤ j53.toInt ∧ j53.toInt ≤ 6) → ∀ (H : Heap) (locs : List Loc) (ls : Array Slot), Wd G s A [(qs, .inr (4, [.int qs_slides, .int qs_hearers, .int qs_nears, .int qs_lines, .int qs_pass, .int qs_spread, .int qs_lamp, .int qs_behind, .int qs_settingsTold, .ref qs_slideNames, .ref qs_pictures, .ref qs_heats, .ref qs_after, .ref qs_hearerNames, .ref qs_needs, .ref qs_likes, .ref qs_hates, .ref qs_near])), (qs_slideNames, eJ G 6 qs_slideNames_c)] H locs → lv_has ls 4 [(3, .int j53), (0, .ref qs), (1, .long a1)] → W p l e (rmD 0 0 0) s m args below meth c H locs 0 0 Q (F0 m 2 ls []) := by
    intro n9
    induction n9 with
    | zero => intro j53 h9; exact absurd h9 (Nat.not_lt_zero _)
    | succ n9 ihJ54 =>
      intro j53 h9J54 hJ54_0 hJ54_1 H locs ls hw hl
      have hbj53 := i_bd j53
      refine lv_iload_n C.1 C.2.1 dX5_findSlide_2 rfl (lv_at hl 0 rfl) ?_
      refine lv_aload_n C.1 C.2.1 dX5_findSlide_3 rfl (lv_at hl 1 rfl) ?_
      refine x_get C hw iwX5 4 rfl 0 rfl 0 (by decide) kw147 rfl dX5_findSlide_4 ?_
      refine lv_icmp_ge (tgt := 29) C.1 C.2.1 dX5_findSlide_7 (by decide) (fun c64 => ?_) (fun c64 => ?_)
      · skip
        have c64 : qs_slides.toInt ≤ j53.toInt := i_leT (X := qs_slides.toInt) (Y := j53.toInt) rfl rfl c64
        refine lv_iconst (v := (-1)) C.1 C.2.1 dX5_findSlide_29 (by decide) ?_
        exact x_retiQ hQ B hw ⟨(-1), rfl, rfl, (by decide), (by have h8 : (qs_slides.toInt - j53.toInt).toNat = 0 := (by omega); rw [← (show fdF (fun k9 => (qs_slideNames_c k9).toInt) a1.toInt (qs_slides.toInt - j53.toInt).toNat (j53.toInt).toNat = fd (fun k9 => (qs_slideNames_c k9).toInt) (qs_slides.toInt).toNat a1.toInt by assumption), h8]; all_goals rfl)⟩ (Nat.le_of_ble_eq_true rfl) (Nat.le_of_ble_eq_true rfl) dX5_findSlide_30
      · skip
        have c64 : j53.toInt < qs_slides.toInt := i_leF (X := qs_slides.toInt) (Y := j53.toInt) rfl rfl c64
        have hst := fdF_s (fun k9 => (qs_slideNames_c k9).toInt) a1.toInt (qs_slides.toInt - j53.toInt - 1).toNat (j53.toInt).toNat
        rw [show (qs_slides.toInt - j53.toInt - 1).toNat + 1 = (qs_slides.toInt - j53.toInt).toNat by omega] at hst
        refine lv_aload_n C.1 C.2.1 dX5_findSlide_10 rfl (lv_at hl 1 rfl) ?_
        refine x_get C hw iwX5 4 rfl 0 rfl 9 (by decide) kw171 rfl dX5_findSlide_11 ?_
        refine lv_iload_n C.1 C.2.1 dX5_findSlide_14 rfl (lv_at hl 0 rfl) ?_
        refine x_lald (v := (qs_slideNames_c j53.toNatClampNeg)) C hw 1 rfl (i_in (by omega) (by omega)) rfl dX5_findSlide_15 (x_genlP (fun z : Int64 => z = qs_slideNames_c (j53.toInt.toNat) ∧ z.toInt = (qs_slideNames_c (j53.toInt.toNat)).toInt) ⟨rfl, rfl⟩ (fun v65 hv65 => ?_))
        refine lv_lload_n C.1 C.2.1 dX5_findSlide_16 rfl (lv_at hl 2 rfl) ?_
        refine W.lcmp C.1 C.2.1 dX5_findSlide_17 (x_genP (fun z : Int32 => z.toInt = 0 ↔ v65.toInt = a1.toInt) (l_cmp0 rfl rfl) (fun v66 hv66 => ?_))
        refine lv_if_ne (tgt := 23) C.1 C.2.1 dX5_findSlide_18 (by decide) (fun c67 => ?_) (fun c67 => ?_)
        · skip
          have c67 : v66.toInt ≠ 0 := i_eqF (X := v66.toInt) (Y := 0) rfl rfl c67
          have bc67_v66 := i_bd v66
          have d68 : v65.toInt ≠ a1.toInt := fun q9 => c67 (hv66.mpr q9)
          clear hv66
          rw [if_neg (show ¬ (qs_slideNames_c (j53.toInt).toNat).toInt = a1.toInt by omega)] at hst
          have hnx : fdF (fun k9 => (qs_slideNames_c k9).toInt) a1.toInt (qs_slides.toInt - j53.toInt - 1).toNat ((j53.toInt).toNat + 1) = fd (fun k9 => (qs_slideNames_c k9).toInt) (qs_slides.toInt).toNat a1.toInt := hst.symm.trans (by assumption)
          obtain ⟨v70, ev70⟩ : ∃ z : Int32, j53 + 1 = z := ⟨_, rfl⟩
          have hv70 : v70.toInt = j53.toInt + 1 := by rw [← ev70]; exact i_add rfl rfl (by omega) (by omega)
          refine lv_iinc (v := v70) (lv' := [(3, .int v70), (0, .ref qs), (1, .long a1)]) C.1 C.2.1 dX5_findSlide_23 hl (k := 0) rfl ev70 (by decide) rfl (fun ls hl => ?_)
          refine lv_goto (tgt := 2) C.1 C.2.1 dX5_findSlide_26 (by decide) ?_
          exact ihJ54 v70 (by omega) (by first | assumption | omega | (rw [show (qs_slides.toInt - v70.toInt).toNat = (qs_slides.toInt - j53.toInt - 1).toNat by omega, show (v70.toInt).toNat = (j53.toInt).toNat + 1 by omega]; assumption)) (by omega) _ _ _ hw (lv_sub hl [0, 1, 2] rfl)
        · skip
          have c67 : v66.toInt = 0 := i_eqT (X := v66.toInt) (Y := 0) rfl rfl c67
          have bc67_v66 := i_bd v66
          have d69 : v65.toInt = a1.toInt := hv66.mp c67
          clear hv66
          rw [if_pos (show (qs_slideNames_c (j53.toInt).toNat).toInt = a1.toInt by omega)] at hst
          refine lv_iload_n C.1 C.2.1 dX5_findSlide_21 rfl (lv_at hl 0 rfl) ?_
          exact x_retiQ hQ B hw ⟨j53, rfl, rfl, (by omega), (by omega)⟩ (Nat.le_of_ble_eq_true rfl) (Nat.le_of_ble_eq_true rfl) dX5_findSlide_22
  exact loopJ54 _ 0 (Nat.lt_succ_self _) (by have e0 : (0 : Int32).toInt = 0 := rfl; first | assumption | omega | (unfold fd; rw [show (qs_slides.toInt - (0 : Int32).toInt).toNat = (qs_slides.toInt).toNat by omega]; all_goals rfl)) (by decide) _ _ _ hw (lv_sub hl [0, 1, 2] rfl)
theorem dX5_findHearer_0 : decode cX5_findHearer 0 = .ok (.iconst 0, 1) := by decide +kernel
theorem dX5_findHearer_1 : decode cX5_findHearer 1 = .ok (.istore_n 3, 1) := by decide +kernel
theorem dX5_findHearer_2 : decode cX5_findHearer 2 = .ok (.iload_n 3, 1) := by decide +kernel
theorem dX5_findHearer_3 : decode cX5_findHearer 3 = .ok (.aload_n 0, 1) := by decide +kernel
theorem dX5_findHearer_4 : decode cX5_findHearer 4 = .ok (.getfield 50, 3) := by decide +kernel
theorem dX5_findHearer_7 : decode cX5_findHearer 7 = .ok (.if_icmp .ge 22, 3) := by decide +kernel
theorem dX5_findHearer_29 : decode cX5_findHearer 29 = .ok (.iconst (-1), 1) := by decide +kernel
theorem dX5_findHearer_30 : decode cX5_findHearer 30 = .ok (.ireturn, 1) := by decide +kernel
theorem dX5_findHearer_10 : decode cX5_findHearer 10 = .ok (.aload_n 0, 1) := by decide +kernel
theorem dX5_findHearer_11 : decode cX5_findHearer 11 = .ok (.getfield 32, 3) := by decide +kernel
theorem dX5_findHearer_14 : decode cX5_findHearer 14 = .ok (.iload_n 3, 1) := by decide +kernel
theorem dX5_findHearer_15 : decode cX5_findHearer 15 = .ok (.laload, 1) := by decide +kernel
theorem dX5_findHearer_16 : decode cX5_findHearer 16 = .ok (.lload_n 1, 1) := by decide +kernel
theorem dX5_findHearer_17 : decode cX5_findHearer 17 = .ok (.lcmp, 1) := by decide +kernel
theorem dX5_findHearer_18 : decode cX5_findHearer 18 = .ok (.ifCond .ne 5, 3) := by decide +kernel
theorem dX5_findHearer_23 : decode cX5_findHearer 23 = .ok (.iinc 3 1, 3) := by decide +kernel
theorem dX5_findHearer_26 : decode cX5_findHearer 26 = .ok (.goto (-24), 3) := by decide +kernel
theorem dX5_findHearer_21 : decode cX5_findHearer 21 = .ok (.iload_n 3, 1) := by decide +kernel
theorem dX5_findHearer_22 : decode cX5_findHearer 22 = .ok (.ireturn, 1) := by decide +kernel
set_option maxHeartbeats 4000000 in
set_option maxRecDepth 100000 in
theorem e_X5_findHearer {l : Launch} {G : Gc} (qs : Nat) (a1 : Int64) (qs_slides : Int32) (qs_hearers : Int32) (qs_nears : Int32) (qs_lines : Int32) (qs_pass : Int32) (qs_spread : Int32) (qs_lamp : Int32) (qs_behind : Int32) (qs_settingsTold : Int32) (qs_slideNames : Nat) (qs_pictures : Nat) (qs_heats : Nat) (qs_after : Nat) (qs_hearerNames : Nat) (qs_needs : Nat) (qs_likes : Nat) (qs_hates : Nat) (qs_near : Nat) (qs_hearerNames_c : Nat → Int64) (hi_qs_hearers : 0 ≤ qs_hearers.toInt ∧ qs_hearers.toInt ≤ 8) : Ci l yX5_findHearer cX5_findHearer 4 (some .int) 0 0 0 G [.ref qs, .long a1] [(qs, .inr (4, [.int qs_slides, .int qs_hearers, .int qs_nears, .int qs_lines, .int qs_pass, .int qs_spread, .int qs_lamp, .int qs_behind, .int qs_settingsTold, .ref qs_slideNames, .ref qs_pictures, .ref qs_heats, .ref qs_after, .ref qs_hearerNames, .ref qs_needs, .ref qs_likes, .ref qs_hates, .ref qs_near])), (qs_hearerNames, eJ G 8 qs_hearerNames_c)] (fun (r9 : Int32) (u9 : va_W) => ∃ (r_x : Int32), r9 = r_x ∧ u9 = [(qs, .inr (4, [.int qs_slides, .int qs_hearers, .int qs_nears, .int qs_lines, .int qs_pass, .int qs_spread, .int qs_lamp, .int qs_behind, .int qs_settingsTold, .ref qs_slideNames, .ref qs_pictures, .ref qs_heats, .ref qs_after, .ref qs_hearerNames, .ref qs_needs, .ref qs_likes, .ref qs_hates, .ref qs_near])), (qs_hearerNames, eJ G 8 qs_hearerNames_c)] ∧ ((-1) ≤ r_x.toInt ∧ r_x.toInt ≤ 7) ∧ (r_x.toInt = fd (fun k9 => (qs_hearerNames_c k9).toInt) (qs_hearers.toInt).toNat a1.toInt)) := by
  refine Ci.ofQ (by decide) (Nat.le_of_ble_eq_true rfl) ?_
  intro p e s m below meth c ls A args Q hQ B hw hl
  have C : CallFix p m c cX5_findHearer 4 s args gw "LanternState$Scene" := B.1
  have hl : lv_has ls 4 [(0, .ref qs), (1, .long a1)] := hl
  refine lv_iconst (v := 0) C.1 C.2.1 dX5_findHearer_0 (by decide) ?_
  refine lv_istore_n (lv' := [(3, .int 0), (0, .ref qs), (1, .long a1)]) C.1 C.2.1 dX5_findHearer_1 rfl hl (by decide) rfl (fun ls hl => ?_)
  have loopJ72 : ∀ (n9 : Nat) (j71 : Int32), (2147483647 - j71.toInt).toNat < n9 → (fdF (fun k9 => (qs_hearerNames_c k9).toInt) a1.toInt (qs_hearers.toInt - j71.toInt).toNat (j71.toInt).toNat = fd (fun k9 => (qs_hearerNames_c k9).toInt) (qs_hearers.toInt).toNat a1.toInt) → (0 ≤ j71.toInt ∧ j71.toInt ≤ 8) → ∀ (H : Heap) (locs : List Loc) (ls : Array Slot), Wd G s A [(qs, .inr (4, [.int qs_slides, .int qs_hearers, .int qs_nears, .int qs_lines, .int qs_pass, .int qs_spread, .int qs_lamp, .int qs_behind, .int qs_settingsTold, .ref qs_slideNames, .ref qs_pictures, .ref qs_heats, .ref qs_after, .ref qs_hearerNames, .ref qs_needs, .ref qs_likes, .ref qs_hates, .ref qs_near])), (qs_hearerNames, eJ G 8 qs_hearerNames_c)] H locs → lv_has ls 4 [(3, .int j71), (0, .ref qs), (1, .long a1)] → W p l e (rmD 0 0 0) s m args below meth c H locs 0 0 Q (F0 m 2 ls []) := by
    intro n9
    induction n9 with
    | zero => intro j71 h9; exact absurd h9 (Nat.not_lt_zero _)
    | succ n9 ihJ72 =>
      intro j71 h9J72 hJ72_0 hJ72_1 H locs ls hw hl
      have hbj71 := i_bd j71
      refine lv_iload_n C.1 C.2.1 dX5_findHearer_2 rfl (lv_at hl 0 rfl) ?_
      refine lv_aload_n C.1 C.2.1 dX5_findHearer_3 rfl (lv_at hl 1 rfl) ?_
      refine x_get C hw iwX5 4 rfl 0 rfl 1 (by decide) kw152 rfl dX5_findHearer_4 ?_
      refine lv_icmp_ge (tgt := 29) C.1 C.2.1 dX5_findHearer_7 (by decide) (fun c82 => ?_) (fun c82 => ?_)
      · skip
        have c82 : qs_hearers.toInt ≤ j71.toInt := i_leT (X := qs_hearers.toInt) (Y := j71.toInt) rfl rfl c82
        refine lv_iconst (v := (-1)) C.1 C.2.1 dX5_findHearer_29 (by decide) ?_
        exact x_retiQ hQ B hw ⟨(-1), rfl, rfl, (by decide), (by have h8 : (qs_hearers.toInt - j71.toInt).toNat = 0 := (by omega); rw [← (show fdF (fun k9 => (qs_hearerNames_c k9).toInt) a1.toInt (qs_hearers.toInt - j71.toInt).toNat (j71.toInt).toNat = fd (fun k9 => (qs_hearerNames_c k9).toInt) (qs_hearers.toInt).toNat a1.toInt by assumption), h8]; all_goals rfl)⟩ (Nat.le_of_ble_eq_true rfl) (Nat.le_of_ble_eq_true rfl) dX5_findHearer_30
      · skip
        have c82 : j71.toInt < qs_hearers.toInt := i_leF (X := qs_hearers.toInt) (Y := j71.toInt) rfl rfl c82
        have hst := fdF_s (fun k9 => (qs_hearerNames_c k9).toInt) a1.toInt (qs_hearers.toInt - j71.toInt - 1).toNat (j71.toInt).toNat
        rw [show (qs_hearers.toInt - j71.toInt - 1).toNat + 1 = (qs_hearers.toInt - j71.toInt).toNat by omega] at hst
        refine lv_aload_n C.1 C.2.1 dX5_findHearer_10 rfl (lv_at hl 1 rfl) ?_
        refine x_get C hw iwX5 4 rfl 0 rfl 13 (by decide) kw184 rfl dX5_findHearer_11 ?_
        refine lv_iload_n C.1 C.2.1 dX5_findHearer_14 rfl (lv_at hl 0 rfl) ?_
        refine x_lald (v := (qs_hearerNames_c j71.toNatClampNeg)) C hw 1 rfl (i_in (by omega) (by omega)) rfl dX5_findHearer_15 (x_genlP (fun z : Int64 => z = qs_hearerNames_c (j71.toInt.toNat) ∧ z.toInt = (qs_hearerNames_c (j71.toInt.toNat)).toInt) ⟨rfl, rfl⟩ (fun v83 hv83 => ?_))
        refine lv_lload_n C.1 C.2.1 dX5_findHearer_16 rfl (lv_at hl 2 rfl) ?_
        refine W.lcmp C.1 C.2.1 dX5_findHearer_17 (x_genP (fun z : Int32 => z.toInt = 0 ↔ v83.toInt = a1.toInt) (l_cmp0 rfl rfl) (fun v84 hv84 => ?_))
        refine lv_if_ne (tgt := 23) C.1 C.2.1 dX5_findHearer_18 (by decide) (fun c85 => ?_) (fun c85 => ?_)
        · skip
          have c85 : v84.toInt ≠ 0 := i_eqF (X := v84.toInt) (Y := 0) rfl rfl c85
          have bc85_v84 := i_bd v84
          have d86 : v83.toInt ≠ a1.toInt := fun q9 => c85 (hv84.mpr q9)
          clear hv84
          rw [if_neg (show ¬ (qs_hearerNames_c (j71.toInt).toNat).toInt = a1.toInt by omega)] at hst
          have hnx : fdF (fun k9 => (qs_hearerNames_c k9).toInt) a1.toInt (qs_hearers.toInt - j71.toInt - 1).toNat ((j71.toInt).toNat + 1) = fd (fun k9 => (qs_hearerNames_c k9).toInt) (qs_hearers.toInt).toNat a1.toInt := hst.symm.trans (by assumption)
          obtain ⟨v88, ev88⟩ : ∃ z : Int32, j71 + 1 = z := ⟨_, rfl⟩
          have hv88 : v88.toInt = j71.toInt + 1 := by rw [← ev88]; exact i_add rfl rfl (by omega) (by omega)
          refine lv_iinc (v := v88) (lv' := [(3, .int v88), (0, .ref qs), (1, .long a1)]) C.1 C.2.1 dX5_findHearer_23 hl (k := 0) rfl ev88 (by decide) rfl (fun ls hl => ?_)
          refine lv_goto (tgt := 2) C.1 C.2.1 dX5_findHearer_26 (by decide) ?_
          exact ihJ72 v88 (by omega) (by first | assumption | omega | (rw [show (qs_hearers.toInt - v88.toInt).toNat = (qs_hearers.toInt - j71.toInt - 1).toNat by omega, show (v88.toInt).toNat = (j71.toInt).toNat + 1 by omega]; assumption)) (by omega) _ _ _ hw (lv_sub hl [0, 1, 2] rfl)
        · skip
          have c85 : v84.toInt = 0 := i_eqT (X := v84.toInt) (Y := 0) rfl rfl c85
          have bc85_v84 := i_bd v84
          have d87 : v83.toInt = a1.toInt := hv84.mp c85
          clear hv84
          rw [if_pos (show (qs_hearerNames_c (j71.toInt).toNat).toInt = a1.toInt by omega)] at hst
          refine lv_iload_n C.1 C.2.1 dX5_findHearer_21 rfl (lv_at hl 0 rfl) ?_
          exact x_retiQ hQ B hw ⟨j71, rfl, rfl, (by omega), (by omega)⟩ (Nat.le_of_ble_eq_true rfl) (Nat.le_of_ble_eq_true rfl) dX5_findHearer_22
  exact loopJ72 _ 0 (Nat.lt_succ_self _) (by have e0 : (0 : Int32).toInt = 0 := rfl; first | assumption | omega | (unfold fd; rw [show (qs_hearers.toInt - (0 : Int32).toInt).toNat = (qs_hearers.toInt).toNat by omega]; all_goals rfl)) (by decide) _ _ _ hw (lv_sub hl [0, 1, 2] rfl)
theorem dX5_isTold_0 : decode cX5_isTold 0 = .ok (.aload_n 0, 1) := by decide +kernel
theorem dX5_isTold_1 : decode cX5_isTold 1 = .ok (.lload_n 1, 1) := by decide +kernel
theorem dX5_isTold_2 : decode cX5_isTold 2 = .ok (.invokevirtual 157, 3) := by decide +kernel
theorem mwX5_findSlide : MwV yX5_findSlide cX5_findSlide 4 (some .int) 1 := ⟨⟨kw563, kw7, by decide +kernel⟩, kw561, kw562⟩
theorem dX5_isTold_5 : decode cX5_isTold 5 = .ok (.iconst (-1), 1) := by decide +kernel
theorem dX5_isTold_6 : decode cX5_isTold 6 = .ok (.if_icmp .ne 12, 3) := by decide +kernel
theorem dX5_isTold_18 : decode cX5_isTold 18 = .ok (.iconst 1, 1) := by decide +kernel
theorem dX5_isTold_19 : decode cX5_isTold 19 = .ok (.goto 4, 3) := by decide +kernel
theorem dX5_isTold_23 : decode cX5_isTold 23 = .ok (.ireturn, 1) := by decide +kernel
theorem dX5_isTold_9 : decode cX5_isTold 9 = .ok (.aload_n 0, 1) := by decide +kernel
theorem dX5_isTold_10 : decode cX5_isTold 10 = .ok (.lload_n 1, 1) := by decide +kernel
theorem dX5_isTold_11 : decode cX5_isTold 11 = .ok (.invokevirtual 161, 3) := by decide +kernel
theorem mwX5_findHearer : MwV yX5_findHearer cX5_findHearer 4 (some .int) 1 := ⟨⟨kw567, kw7, by decide +kernel⟩, kw565, kw566⟩
theorem dX5_isTold_14 : decode cX5_isTold 14 = .ok (.iconst (-1), 1) := by decide +kernel
theorem dX5_isTold_15 : decode cX5_isTold 15 = .ok (.if_icmp .eq 7, 3) := by decide +kernel
theorem dX5_isTold_22 : decode cX5_isTold 22 = .ok (.iconst 0, 1) := by decide +kernel
set_option maxHeartbeats 4000000 in
set_option maxRecDepth 100000 in
theorem e_X5_isTold {l : Launch} {G : Gc} (qs : Nat) (a1 : Int64) (qs_slides : Int32) (qs_hearers : Int32) (qs_nears : Int32) (qs_lines : Int32) (qs_pass : Int32) (qs_spread : Int32) (qs_lamp : Int32) (qs_behind : Int32) (qs_settingsTold : Int32) (qs_slideNames : Nat) (qs_pictures : Nat) (qs_heats : Nat) (qs_after : Nat) (qs_hearerNames : Nat) (qs_needs : Nat) (qs_likes : Nat) (qs_hates : Nat) (qs_near : Nat) (qs_slideNames_c : Nat → Int64) (qs_after_c : Nat → Int32) (qs_hearerNames_c : Nat → Int64) (qs_likes_c : Nat → Int32) (qs_hates_c : Nat → Int32) (qs_near_c : Nat → Int32) (sg : Nat → Int) (ww9 : Int) (hi_qs_slides : 0 ≤ qs_slides.toInt ∧ qs_slides.toInt ≤ 6) (hi_qs_hearers : 0 ≤ qs_hearers.toInt ∧ qs_hearers.toInt ≤ 8) (hf_qs_after_c : inA 6 (-1) 5 qs_after_c) (hr_0 : rlC sg qs_slides qs_hearers qs_nears qs_pass qs_spread qs_lamp qs_settingsTold qs_slideNames_c qs_after_c qs_hearerNames_c qs_likes_c qs_hates_c qs_near_c) (hr_1 : sgI sg ) (hr_2 : a1.toInt = cv ww9) (hr_3 : 0 ≤ ww9 ∧ ww9 < 10460353203) : Ci l yX5_isTold cX5_isTold 3 (some .boolean) 1 0 0 G [.ref qs, .long a1] [(qs, .inr (4, [.int qs_slides, .int qs_hearers, .int qs_nears, .int qs_lines, .int qs_pass, .int qs_spread, .int qs_lamp, .int qs_behind, .int qs_settingsTold, .ref qs_slideNames, .ref qs_pictures, .ref qs_heats, .ref qs_after, .ref qs_hearerNames, .ref qs_needs, .ref qs_likes, .ref qs_hates, .ref qs_near])), (qs_slideNames, eJ G 6 qs_slideNames_c), (qs_after, eI G 6 qs_after_c), (qs_hearerNames, eJ G 8 qs_hearerNames_c), (qs_likes, eI G 8 qs_likes_c), (qs_hates, eI G 8 qs_hates_c), (qs_near, eI G 8 qs_near_c)] (fun (r9 : Int32) (u9 : va_W) => (r9 = 0 ∧ u9 = [(qs, .inr (4, [.int qs_slides, .int qs_hearers, .int qs_nears, .int qs_lines, .int qs_pass, .int qs_spread, .int qs_lamp, .int qs_behind, .int qs_settingsTold, .ref qs_slideNames, .ref qs_pictures, .ref qs_heats, .ref qs_after, .ref qs_hearerNames, .ref qs_needs, .ref qs_likes, .ref qs_hates, .ref qs_near])), (qs_slideNames, eJ G 6 qs_slideNames_c), (qs_after, eI G 6 qs_after_c), (qs_hearerNames, eJ G 8 qs_hearerNames_c), (qs_likes, eI G 8 qs_likes_c), (qs_hates, eI G 8 qs_hates_c), (qs_near, eI G 8 qs_near_c)] ∧ (sF sg ww9 = -1 ∧ hF sg ww9 = -1)) ∨ (r9 = 1 ∧ u9 = [(qs, .inr (4, [.int qs_slides, .int qs_hearers, .int qs_nears, .int qs_lines, .int qs_pass, .int qs_spread, .int qs_lamp, .int qs_behind, .int qs_settingsTold, .ref qs_slideNames, .ref qs_pictures, .ref qs_heats, .ref qs_after, .ref qs_hearerNames, .ref qs_needs, .ref qs_likes, .ref qs_hates, .ref qs_near])), (qs_slideNames, eJ G 6 qs_slideNames_c), (qs_after, eI G 6 qs_after_c), (qs_hearerNames, eJ G 8 qs_hearerNames_c), (qs_likes, eI G 8 qs_likes_c), (qs_hates, eI G 8 qs_hates_c), (qs_near, eI G 8 qs_near_c)] ∧ (¬ (sF sg ww9 = -1 ∧ hF sg ww9 = -1)))) := by
  refine Ci.ofQ (by decide) (Nat.le_of_ble_eq_true rfl) ?_
  intro p e s m below meth c ls A args Q hQ B hw hl
  have C : CallFix p m c cX5_isTold 3 s args gw "LanternState$Scene" := B.1
  have hl : lv_has ls 3 [(0, .ref qs), (1, .long a1)] := hl
  refine lv_aload_n C.1 C.2.1 dX5_isTold_0 rfl (lv_at hl 0 rfl) ?_
  refine lv_lload_n C.1 C.2.1 dX5_isTold_1 rfl (lv_at hl 1 rfl) ?_
  refine x_calliV (As := [.long a1]) (rest := []) (wr := [(qs_after, eI G 6 qs_after_c), (qs_hearerNames, eJ G 8 qs_hearerNames_c), (qs_likes, eI G 8 qs_likes_c), (qs_hates, eI G 8 qs_hates_c), (qs_near, eI G 8 qs_near_c)]) C hw (e_X5_findSlide qs a1 qs_slides qs_hearers qs_nears qs_lines qs_pass qs_spread qs_lamp qs_behind qs_settingsTold qs_slideNames qs_pictures qs_heats qs_after qs_hearerNames qs_needs qs_likes qs_hates qs_near qs_slideNames_c (by omega)) mwX5_findSlide kw560 [0, 1] [2, 3, 4, 5, 6] rfl rfl rfl rfl (by decide) 0 rfl rfl rfl rfl hl.1 rfl (Nat.le_of_ble_eq_true rfl) ⟨(Nat.le_of_ble_eq_true rfl), (Nat.le_of_ble_eq_true rfl)⟩ ⟨(Nat.le_of_ble_eq_true rfl), (Nat.le_of_ble_eq_true rfl)⟩ dX5_isTold_2 (fun r1 u9 H locs hp9 hw => ?_)
  obtain ⟨x2, rfl, rfl, hf3, hf4⟩ := hp9
  have hw : Wd G s A [(qs_after, eI G 6 qs_after_c), (qs_hearerNames, eJ G 8 qs_hearerNames_c), (qs_likes, eI G 8 qs_likes_c), (qs_hates, eI G 8 qs_hates_c), (qs_near, eI G 8 qs_near_c), (qs, .inr (4, [.int qs_slides, .int qs_hearers, .int qs_nears, .int qs_lines, .int qs_pass, .int qs_spread, .int qs_lamp, .int qs_behind, .int qs_settingsTold, .ref qs_slideNames, .ref qs_pictures, .ref qs_heats, .ref qs_after, .ref qs_hearerNames, .ref qs_needs, .ref qs_likes, .ref qs_hates, .ref qs_near])), (qs_slideNames, eJ G 6 qs_slideNames_c)] H _ := hw
  have hfs : r1.toInt = sF sg ww9 := by rw [hf4]; exact fC_s hr_0 hr_1 (by have := hr_0.1; omega) hr_2 hr_3.1 hr_3.2
  refine lv_iconst (v := (-1)) C.1 C.2.1 dX5_isTold_5 (by decide) ?_
  refine lv_icmp_ne (tgt := 18) C.1 C.2.1 dX5_isTold_6 (by decide) (fun c5 => ?_) (fun c5 => ?_)
  · skip
    have c5 : r1.toInt ≠ (-1) := i_eqF (X := r1.toInt) (Y := (-1)) rfl rfl c5
    refine lv_iconst (v := 1) C.1 C.2.1 dX5_isTold_18 (by decide) ?_
    refine lv_goto (tgt := 23) C.1 C.2.1 dX5_isTold_19 (by decide) ?_
    have hw := hw.sub (w' := [(qs, .inr (4, [.int qs_slides, .int qs_hearers, .int qs_nears, .int qs_lines, .int qs_pass, .int qs_spread, .int qs_lamp, .int qs_behind, .int qs_settingsTold, .ref qs_slideNames, .ref qs_pictures, .ref qs_heats, .ref qs_after, .ref qs_hearerNames, .ref qs_needs, .ref qs_likes, .ref qs_hates, .ref qs_near])), (qs_slideNames, eJ G 6 qs_slideNames_c), (qs_after, eI G 6 qs_after_c), (qs_hearerNames, eJ G 8 qs_hearerNames_c), (qs_likes, eI G 8 qs_likes_c), (qs_hates, eI G 8 qs_hates_c), (qs_near, eI G 8 qs_near_c)]) [5, 6, 0, 1, 2, 3, 4] rfl rfl
    exact x_retzQ hQ B hw rfl (Or.inr ⟨rfl, rfl, (by first | omega)⟩) (Nat.le_of_ble_eq_true rfl) (Nat.le_of_ble_eq_true rfl) dX5_isTold_23
  · skip
    have c5 : r1.toInt = (-1) := i_eqT (X := r1.toInt) (Y := (-1)) rfl rfl c5
    refine lv_aload_n C.1 C.2.1 dX5_isTold_9 rfl (lv_at hl 0 rfl) ?_
    refine lv_lload_n C.1 C.2.1 dX5_isTold_10 rfl (lv_at hl 1 rfl) ?_
    refine x_calliV (As := [.long a1]) (rest := []) (wr := [(qs_after, eI G 6 qs_after_c), (qs_likes, eI G 8 qs_likes_c), (qs_hates, eI G 8 qs_hates_c), (qs_near, eI G 8 qs_near_c), (qs_slideNames, eJ G 6 qs_slideNames_c)]) C hw (e_X5_findHearer qs a1 qs_slides qs_hearers qs_nears qs_lines qs_pass qs_spread qs_lamp qs_behind qs_settingsTold qs_slideNames qs_pictures qs_heats qs_after qs_hearerNames qs_needs qs_likes qs_hates qs_near qs_hearerNames_c (by omega)) mwX5_findHearer kw564 [5, 1] [0, 2, 3, 4, 6] rfl rfl rfl rfl (by decide) 0 rfl rfl rfl rfl hl.1 rfl (Nat.le_of_ble_eq_true rfl) ⟨(Nat.le_of_ble_eq_true rfl), (Nat.le_of_ble_eq_true rfl)⟩ ⟨(Nat.le_of_ble_eq_true rfl), (Nat.le_of_ble_eq_true rfl)⟩ dX5_isTold_11 (fun r6 u9 H locs hp9 hw => ?_)
    obtain ⟨x7, rfl, rfl, hf8, hf9⟩ := hp9
    have hw : Wd G s A [(qs_after, eI G 6 qs_after_c), (qs_likes, eI G 8 qs_likes_c), (qs_hates, eI G 8 qs_hates_c), (qs_near, eI G 8 qs_near_c), (qs_slideNames, eJ G 6 qs_slideNames_c), (qs, .inr (4, [.int qs_slides, .int qs_hearers, .int qs_nears, .int qs_lines, .int qs_pass, .int qs_spread, .int qs_lamp, .int qs_behind, .int qs_settingsTold, .ref qs_slideNames, .ref qs_pictures, .ref qs_heats, .ref qs_after, .ref qs_hearerNames, .ref qs_needs, .ref qs_likes, .ref qs_hates, .ref qs_near])), (qs_hearerNames, eJ G 8 qs_hearerNames_c)] H _ := hw
    have hfh : r6.toInt = hF sg ww9 := by rw [hf9]; exact fC_h hr_0 hr_1 (by have := hr_0.1; omega) hr_2 hr_3.1 hr_3.2
    refine lv_iconst (v := (-1)) C.1 C.2.1 dX5_isTold_14 (by decide) ?_
    refine lv_icmp_eq (tgt := 22) C.1 C.2.1 dX5_isTold_15 (by decide) (fun c10 => ?_) (fun c10 => ?_)
    · skip
      have c10 : r6.toInt = (-1) := i_eqT (X := r6.toInt) (Y := (-1)) rfl rfl c10
      refine lv_iconst (v := 0) C.1 C.2.1 dX5_isTold_22 (by decide) ?_
      have hw := hw.sub (w' := [(qs, .inr (4, [.int qs_slides, .int qs_hearers, .int qs_nears, .int qs_lines, .int qs_pass, .int qs_spread, .int qs_lamp, .int qs_behind, .int qs_settingsTold, .ref qs_slideNames, .ref qs_pictures, .ref qs_heats, .ref qs_after, .ref qs_hearerNames, .ref qs_needs, .ref qs_likes, .ref qs_hates, .ref qs_near])), (qs_slideNames, eJ G 6 qs_slideNames_c), (qs_after, eI G 6 qs_after_c), (qs_hearerNames, eJ G 8 qs_hearerNames_c), (qs_likes, eI G 8 qs_likes_c), (qs_hates, eI G 8 qs_hates_c), (qs_near, eI G 8 qs_near_c)]) [5, 4, 0, 6, 1, 2, 3] rfl rfl
      exact x_retzQ hQ B hw rfl (Or.inl ⟨rfl, rfl, (by first | omega)⟩) (Nat.le_of_ble_eq_true rfl) (Nat.le_of_ble_eq_true rfl) dX5_isTold_23
    · skip
      have c10 : r6.toInt ≠ (-1) := i_eqF (X := r6.toInt) (Y := (-1)) rfl rfl c10
      refine lv_iconst (v := 1) C.1 C.2.1 dX5_isTold_18 (by decide) ?_
      refine lv_goto (tgt := 23) C.1 C.2.1 dX5_isTold_19 (by decide) ?_
      have hw := hw.sub (w' := [(qs, .inr (4, [.int qs_slides, .int qs_hearers, .int qs_nears, .int qs_lines, .int qs_pass, .int qs_spread, .int qs_lamp, .int qs_behind, .int qs_settingsTold, .ref qs_slideNames, .ref qs_pictures, .ref qs_heats, .ref qs_after, .ref qs_hearerNames, .ref qs_needs, .ref qs_likes, .ref qs_hates, .ref qs_near])), (qs_slideNames, eJ G 6 qs_slideNames_c), (qs_after, eI G 6 qs_after_c), (qs_hearerNames, eJ G 8 qs_hearerNames_c), (qs_likes, eI G 8 qs_likes_c), (qs_hates, eI G 8 qs_hates_c), (qs_near, eI G 8 qs_near_c)]) [5, 4, 0, 6, 1, 2, 3] rfl rfl
      exact x_retzQ hQ B hw rfl (Or.inr ⟨rfl, rfl, (by first | omega)⟩) (Nat.le_of_ble_eq_true rfl) (Nat.le_of_ble_eq_true rfl) dX5_isTold_23
theorem dX5_takeSlide_0 : decode cX5_takeSlide 0 = .ok (.aload_n 1, 1) := by decide +kernel
theorem dX5_takeSlide_1 : decode cX5_takeSlide 1 = .ok (.invokevirtual 77, 3) := by decide +kernel
theorem dX5_takeSlide_4 : decode cX5_takeSlide 4 = .ok (.aload_n 1, 1) := by decide +kernel
theorem dX5_takeSlide_5 : decode cX5_takeSlide 5 = .ok (.getfield 82, 3) := by decide +kernel
theorem dX5_takeSlide_8 : decode cX5_takeSlide 8 = .ok (.iconst 2, 1) := by decide +kernel
theorem dX5_takeSlide_9 : decode cX5_takeSlide 9 = .ok (.if_icmp .ne 14, 3) := by decide +kernel
theorem dX5_takeSlide_23 : decode cX5_takeSlide 23 = .ok (.iconst (-1), 1) := by decide +kernel
theorem dX5_takeSlide_24 : decode cX5_takeSlide 24 = .ok (.istore_n 2, 1) := by decide +kernel
theorem dX5_takeSlide_25 : decode cX5_takeSlide 25 = .ok (.iload_n 2, 1) := by decide +kernel
theorem dX5_takeSlide_26 : decode cX5_takeSlide 26 = .ok (.iconst (-1), 1) := by decide +kernel
theorem dX5_takeSlide_27 : decode cX5_takeSlide 27 = .ok (.if_icmp .ne 21, 3) := by decide +kernel
theorem dX5_takeSlide_30 : decode cX5_takeSlide 30 = .ok (.aload_n 1, 1) := by decide +kernel
theorem dX5_takeSlide_31 : decode cX5_takeSlide 31 = .ok (.aload_n 1, 1) := by decide +kernel
theorem dX5_takeSlide_32 : decode cX5_takeSlide 32 = .ok (.getfield 82, 3) := by decide +kernel
theorem dX5_takeSlide_35 : decode cX5_takeSlide 35 = .ok (.iconst 2, 1) := by decide +kernel
theorem dX5_takeSlide_36 : decode cX5_takeSlide 36 = .ok (.if_icmp .ne 7, 3) := by decide +kernel
theorem dX5_takeSlide_43 : decode cX5_takeSlide 43 = .ok (.iconst 1, 1) := by decide +kernel
theorem dX5_takeSlide_44 : decode cX5_takeSlide 44 = .ok (.invokevirtual 116, 3) := by decide +kernel
theorem dX5_takeSlide_47 : decode cX5_takeSlide 47 = .ok (.pop, 1) := by decide +kernel
theorem dX5_takeSlide_48 : decode cX5_takeSlide 48 = .ok (.iload_n 2, 1) := by decide +kernel
theorem dX5_takeSlide_49 : decode cX5_takeSlide 49 = .ok (.ireturn, 1) := by decide +kernel
theorem dX5_takeSlide_39 : decode cX5_takeSlide 39 = .ok (.iconst 3, 1) := by decide +kernel
theorem dX5_takeSlide_40 : decode cX5_takeSlide 40 = .ok (.goto 4, 3) := by decide +kernel
theorem dX5_takeSlide_12 : decode cX5_takeSlide 12 = .ok (.aload_n 0, 1) := by decide +kernel
theorem dX5_takeSlide_13 : decode cX5_takeSlide 13 = .ok (.aload_n 1, 1) := by decide +kernel
theorem dX5_takeSlide_14 : decode cX5_takeSlide 14 = .ok (.getfield 123, 3) := by decide +kernel
theorem dX5_takeSlide_17 : decode cX5_takeSlide 17 = .ok (.invokevirtual 157, 3) := by decide +kernel
theorem dX5_takeSlide_20 : decode cX5_takeSlide 20 = .ok (.goto 4, 3) := by decide +kernel
set_option maxHeartbeats 4000000 in
set_option maxRecDepth 100000 in
theorem e_X5_takeSlide {l : Launch} {G : Gc} (qs : Nat) (qt : Nat) (qs_slides : Int32) (qs_hearers : Int32) (qs_nears : Int32) (qs_lines : Int32) (qs_pass : Int32) (qs_spread : Int32) (qs_lamp : Int32) (qs_behind : Int32) (qs_settingsTold : Int32) (qs_slideNames : Nat) (qs_pictures : Nat) (qs_heats : Nat) (qs_after : Nat) (qs_hearerNames : Nat) (qs_needs : Nat) (qs_likes : Nat) (qs_hates : Nat) (qs_near : Nat) (qs_slideNames_c : Nat → Int64) (qs_after_c : Nat → Int32) (qs_hearerNames_c : Nat → Int64) (qs_likes_c : Nat → Int32) (qs_hates_c : Nat → Int32) (qs_near_c : Nat → Int32) (qt_keyCodes : Nat) (qt_bytes : Nat) (qt_size : Int32) (qt_most : Int32) (qt_from : Int32) (qt_kind : Int32) (qt_place : Int32) (qt_value : Int32) (qt_code : Int64) (qt_key : Int32) (qt_faultPlace : Int32) (qt_keyCodes_c : Nat → Int64) (qt_bytes_c : Nat → Int32) (b : Int → Int) (sg : Nat → Int) (hi_qt_from : 0 ≤ qt_from.toInt ∧ qt_from.toInt ≤ 940) (hi_qt_most : 0 ≤ qt_most.toInt ∧ qt_most.toInt ≤ 900) (hi_qs_slides : 0 ≤ qs_slides.toInt ∧ qs_slides.toInt ≤ 6) (hi_qs_hearers : 0 ≤ qs_hearers.toInt ∧ qs_hearers.toInt ≤ 8) (hf_qs_after_c : inA 6 (-1) 5 qs_after_c) (hi_qt_size : 0 ≤ qt_size.toInt ∧ qt_size.toInt ≤ 940) (hr_0 : tbC b qt_bytes_c qt_size) (hr_1 : kcI qt_keyCodes_c) (hr_2 : rlC sg qs_slides qs_hearers qs_nears qs_pass qs_spread qs_lamp qs_settingsTold qs_slideNames_c qs_after_c qs_hearerNames_c qs_likes_c qs_hates_c qs_near_c) (hr_3 : sgI sg ) : Ci l yX5_takeSlide cX5_takeSlide 3 (some .int) 3 0 0 G [.ref qs, .ref qt] [(qs, .inr (4, [.int qs_slides, .int qs_hearers, .int qs_nears, .int qs_lines, .int qs_pass, .int qs_spread, .int qs_lamp, .int qs_behind, .int qs_settingsTold, .ref qs_slideNames, .ref qs_pictures, .ref qs_heats, .ref qs_after, .ref qs_hearerNames, .ref qs_needs, .ref qs_likes, .ref qs_hates, .ref qs_near])), (qs_slideNames, eJ G 6 qs_slideNames_c), (qs_after, eI G 6 qs_after_c), (qs_hearerNames, eJ G 8 qs_hearerNames_c), (qs_likes, eI G 8 qs_likes_c), (qs_hates, eI G 8 qs_hates_c), (qs_near, eI G 8 qs_near_c), (qt, .inr (8, [.ref qt_keyCodes, .ref qt_bytes, .int qt_size, .int qt_most, .int qt_from, .int qt_kind, .int qt_place, .int qt_value, .long qt_code, .int qt_key, .int 0, .int qt_faultPlace])), (qt_keyCodes, eJ G 27 qt_keyCodes_c), (qt_bytes, eB G 940 qt_bytes_c)] (fun (r9 : Int32) (u9 : va_W) => (∃ (x0_qt_from : Int32) (x1_qt_kind : Int32) (x2_qt_place : Int32) (x3_qt_value : Int32) (x4_qt_code : Int64) (x5_qt_key : Int32) (x6_0 : Int32) (x7_qt_faultPlace : Int32) (r_x : Int32), r9 = r_x ∧ u9 = [(qs, .inr (4, [.int qs_slides, .int qs_hearers, .int qs_nears, .int qs_lines, .int qs_pass, .int qs_spread, .int qs_lamp, .int qs_behind, .int qs_settingsTold, .ref qs_slideNames, .ref qs_pictures, .ref qs_heats, .ref qs_after, .ref qs_hearerNames, .ref qs_needs, .ref qs_likes, .ref qs_hates, .ref qs_near])), (qs_slideNames, eJ G 6 qs_slideNames_c), (qs_after, eI G 6 qs_after_c), (qs_hearerNames, eJ G 8 qs_hearerNames_c), (qs_likes, eI G 8 qs_likes_c), (qs_hates, eI G 8 qs_hates_c), (qs_near, eI G 8 qs_near_c), (qt, .inr (8, [.ref qt_keyCodes, .ref qt_bytes, .int qt_size, .int qt_most, .int x0_qt_from, .int x1_qt_kind, .int x2_qt_place, .int x3_qt_value, .long x4_qt_code, .int x5_qt_key, .int x6_0, .int x7_qt_faultPlace])), (qt_keyCodes, eJ G 27 qt_keyCodes_c), (qt_bytes, eB G 940 qt_bytes_c)] ∧ (0 ≤ x0_qt_from.toInt ∧ x0_qt_from.toInt ≤ 940) ∧ (0 ≤ x1_qt_kind.toInt ∧ x1_qt_kind.toInt ≤ 5) ∧ (0 ≤ x2_qt_place.toInt ∧ x2_qt_place.toInt ≤ 940) ∧ ((-1) ≤ x5_qt_key.toInt ∧ x5_qt_key.toInt ≤ 33) ∧ (1 ≤ x6_0.toInt ∧ x6_0.toInt ≤ 3) ∧ (0 ≤ x7_qt_faultPlace.toInt ∧ x7_qt_faultPlace.toInt ≤ 940) ∧ ((-1) ≤ r_x.toInt ∧ r_x.toInt ≤ (-1)) ∧ (x7_qt_faultPlace.toInt = tkP b qt_size.toInt qt_most.toInt qt_from.toInt) ∧ ((¬ (tkK b qt_size.toInt qt_most.toInt qt_from.toInt = 2 ∧ kyN (tkW b qt_size.toInt qt_from.toInt) = -1) ∧ x6_0.toInt = 1) ∨ ((tkK b qt_size.toInt qt_most.toInt qt_from.toInt = 2 ∧ kyN (tkW b qt_size.toInt qt_from.toInt) = -1) ∧ sF sg (tkW b qt_size.toInt qt_from.toInt) = -1 ∧ x6_0.toInt = 3)) ∧ (r_x.toInt = -1)) ∨ (∃ (x0_qt_from : Int32) (x1_qt_kind : Int32) (x2_qt_place : Int32) (x3_qt_value : Int32) (x4_qt_code : Int64) (x5_qt_key : Int32) (r_x : Int32), r9 = r_x ∧ u9 = [(qs, .inr (4, [.int qs_slides, .int qs_hearers, .int qs_nears, .int qs_lines, .int qs_pass, .int qs_spread, .int qs_lamp, .int qs_behind, .int qs_settingsTold, .ref qs_slideNames, .ref qs_pictures, .ref qs_heats, .ref qs_after, .ref qs_hearerNames, .ref qs_needs, .ref qs_likes, .ref qs_hates, .ref qs_near])), (qs_slideNames, eJ G 6 qs_slideNames_c), (qs_after, eI G 6 qs_after_c), (qs_hearerNames, eJ G 8 qs_hearerNames_c), (qs_likes, eI G 8 qs_likes_c), (qs_hates, eI G 8 qs_hates_c), (qs_near, eI G 8 qs_near_c), (qt, .inr (8, [.ref qt_keyCodes, .ref qt_bytes, .int qt_size, .int qt_most, .int x0_qt_from, .int x1_qt_kind, .int x2_qt_place, .int x3_qt_value, .long x4_qt_code, .int x5_qt_key, .int 0, .int qt_faultPlace])), (qt_keyCodes, eJ G 27 qt_keyCodes_c), (qt_bytes, eB G 940 qt_bytes_c)] ∧ (0 ≤ x0_qt_from.toInt ∧ x0_qt_from.toInt ≤ 940) ∧ (2 ≤ x1_qt_kind.toInt ∧ x1_qt_kind.toInt ≤ 2) ∧ (0 ≤ x2_qt_place.toInt ∧ x2_qt_place.toInt ≤ 940) ∧ ((-1) ≤ x5_qt_key.toInt ∧ x5_qt_key.toInt ≤ 33) ∧ (0 ≤ r_x.toInt ∧ r_x.toInt ≤ 5) ∧ (x0_qt_from.toInt = tkX b qt_size.toInt qt_most.toInt qt_from.toInt) ∧ (x2_qt_place.toInt = tkP b qt_size.toInt qt_most.toInt qt_from.toInt) ∧ (tkK b qt_size.toInt qt_most.toInt qt_from.toInt = 2 ∧ kyN (tkW b qt_size.toInt qt_from.toInt) = -1) ∧ (r_x.toInt = sF sg (tkW b qt_size.toInt qt_from.toInt) ∧ 0 ≤ r_x.toInt))) := by
  refine Ci.ofQ (by decide) (Nat.le_of_ble_eq_true rfl) ?_
  intro p e s m below meth c ls A args Q hQ B hw hl
  have C : CallFix p m c cX5_takeSlide 3 s args gw "LanternState$Scene" := B.1
  have hl : lv_has ls 3 [(0, .ref qs), (1, .ref qt)] := hl
  refine lv_aload_n C.1 C.2.1 dX5_takeSlide_0 rfl (lv_at hl 1 rfl) ?_
  refine x_callvV (As := []) (rest := []) (wr := [(qs, .inr (4, [.int qs_slides, .int qs_hearers, .int qs_nears, .int qs_lines, .int qs_pass, .int qs_spread, .int qs_lamp, .int qs_behind, .int qs_settingsTold, .ref qs_slideNames, .ref qs_pictures, .ref qs_heats, .ref qs_after, .ref qs_hearerNames, .ref qs_needs, .ref qs_likes, .ref qs_hates, .ref qs_near])), (qs_slideNames, eJ G 6 qs_slideNames_c), (qs_after, eI G 6 qs_after_c), (qs_hearerNames, eJ G 8 qs_hearerNames_c), (qs_likes, eI G 8 qs_likes_c), (qs_hates, eI G 8 qs_hates_c), (qs_near, eI G 8 qs_near_c)]) C hw (e_X9_next qt qt_keyCodes qt_bytes qt_size qt_most qt_from qt_kind qt_place qt_value qt_code qt_key 0 qt_faultPlace qt_keyCodes_c qt_bytes_c b (by omega) (by omega) (by omega) hr_0 hr_1) mwX9_next kw526 [7, 8, 9] [0, 1, 2, 3, 4, 5, 6] rfl rfl rfl rfl (by decide) 0 rfl rfl rfl rfl hl.1 rfl (Nat.le_of_ble_eq_true rfl) ⟨(Nat.le_of_ble_eq_true rfl), (Nat.le_of_ble_eq_true rfl)⟩ ⟨(Nat.le_of_ble_eq_true rfl), (Nat.le_of_ble_eq_true rfl)⟩ dX5_takeSlide_1 (fun  u9 H locs hp9 hw => ?_)
  obtain ⟨x1, x2, x3, x4, x5, x6, rfl, hf7, hf8, hf9, hf10, hf11, hf12, hf13, hf14, hf15, hf16, hf17⟩ := hp9
  have hw : Wd G s A [(qs, .inr (4, [.int qs_slides, .int qs_hearers, .int qs_nears, .int qs_lines, .int qs_pass, .int qs_spread, .int qs_lamp, .int qs_behind, .int qs_settingsTold, .ref qs_slideNames, .ref qs_pictures, .ref qs_heats, .ref qs_after, .ref qs_hearerNames, .ref qs_needs, .ref qs_likes, .ref qs_hates, .ref qs_near])), (qs_slideNames, eJ G 6 qs_slideNames_c), (qs_after, eI G 6 qs_after_c), (qs_hearerNames, eJ G 8 qs_hearerNames_c), (qs_likes, eI G 8 qs_likes_c), (qs_hates, eI G 8 qs_hates_c), (qs_near, eI G 8 qs_near_c), (qt, .inr (8, [.ref qt_keyCodes, .ref qt_bytes, .int qt_size, .int qt_most, .int x1, .int x2, .int x3, .int x4, .long x5, .int x6, .int 0, .int qt_faultPlace])), (qt_keyCodes, eJ G 27 qt_keyCodes_c), (qt_bytes, eB G 940 qt_bytes_c)] H _ := hw
  refine lv_aload_n C.1 C.2.1 dX5_takeSlide_4 rfl (lv_at hl 1 rfl) ?_
  refine x_get C hw iwX9 8 rfl 7 rfl 5 (by decide) kw96 rfl dX5_takeSlide_5 ?_
  refine lv_iconst (v := 2) C.1 C.2.1 dX5_takeSlide_8 (by decide) ?_
  refine lv_icmp_ne (tgt := 23) C.1 C.2.1 dX5_takeSlide_9 (by decide) (fun c18 => ?_) (fun c18 => ?_)
  · skip
    have c18 : x2.toInt ≠ 2 := i_eqF (X := x2.toInt) (Y := 2) rfl rfl c18
    refine lv_iconst (v := (-1)) C.1 C.2.1 dX5_takeSlide_23 (by decide) ?_
    refine lv_istore_n (lv' := [(2, .int (-1)), (0, .ref qs), (1, .ref qt)]) C.1 C.2.1 dX5_takeSlide_24 rfl hl (by decide) rfl (fun ls hl => ?_)
    refine lv_iload_n C.1 C.2.1 dX5_takeSlide_25 rfl (lv_at hl 0 rfl) ?_
    refine lv_iconst (v := (-1)) C.1 C.2.1 dX5_takeSlide_26 (by decide) ?_
    refine lv_icmp_ne (tgt := 48) C.1 C.2.1 dX5_takeSlide_27 (by decide) (fun h9 => absurd (by decide) h9) (fun _ => ?_)
    refine lv_aload_n C.1 C.2.1 dX5_takeSlide_30 rfl (lv_at hl 2 rfl) ?_
    refine lv_aload_n C.1 C.2.1 dX5_takeSlide_31 rfl (lv_at hl 2 rfl) ?_
    refine x_get C hw iwX9 8 rfl 7 rfl 5 (by decide) kw96 rfl dX5_takeSlide_32 ?_
    refine lv_iconst (v := 2) C.1 C.2.1 dX5_takeSlide_35 (by decide) ?_
    refine lv_icmp_ne (tgt := 43) C.1 C.2.1 dX5_takeSlide_36 (by decide) (fun c19 => ?_) (fun c19 => ?_)
    · skip
      have c19 : x2.toInt ≠ 2 := i_eqF (X := x2.toInt) (Y := 2) rfl rfl c19
      refine lv_iconst (v := 1) C.1 C.2.1 dX5_takeSlide_43 (by decide) ?_
      refine x_calliV (As := [.int 1]) (rest := []) (wr := [(qs, .inr (4, [.int qs_slides, .int qs_hearers, .int qs_nears, .int qs_lines, .int qs_pass, .int qs_spread, .int qs_lamp, .int qs_behind, .int qs_settingsTold, .ref qs_slideNames, .ref qs_pictures, .ref qs_heats, .ref qs_after, .ref qs_hearerNames, .ref qs_needs, .ref qs_likes, .ref qs_hates, .ref qs_near])), (qs_slideNames, eJ G 6 qs_slideNames_c), (qs_after, eI G 6 qs_after_c), (qs_hearerNames, eJ G 8 qs_hearerNames_c), (qs_likes, eI G 8 qs_likes_c), (qs_hates, eI G 8 qs_hates_c), (qs_near, eI G 8 qs_near_c), (qt_keyCodes, eJ G 27 qt_keyCodes_c), (qt_bytes, eB G 940 qt_bytes_c)]) C hw (e_X9_fail qt 1 qt_keyCodes qt_bytes qt_size qt_most x1 x2 x3 x4 x5 x6 qt_faultPlace) mwX9_fail kw546 [7] [0, 1, 2, 3, 4, 5, 6, 8, 9] rfl rfl rfl rfl (by decide) 0 rfl rfl rfl rfl hl.1 rfl (Nat.le_of_ble_eq_true rfl) ⟨(Nat.le_of_ble_eq_true rfl), (Nat.le_of_ble_eq_true rfl)⟩ ⟨(Nat.le_of_ble_eq_true rfl), (Nat.le_of_ble_eq_true rfl)⟩ dX5_takeSlide_44 (fun r20 u9 H locs hp9 hw => ?_)
      obtain ⟨rfl, rfl⟩ := hp9
      have hw : Wd G s A [(qs, .inr (4, [.int qs_slides, .int qs_hearers, .int qs_nears, .int qs_lines, .int qs_pass, .int qs_spread, .int qs_lamp, .int qs_behind, .int qs_settingsTold, .ref qs_slideNames, .ref qs_pictures, .ref qs_heats, .ref qs_after, .ref qs_hearerNames, .ref qs_needs, .ref qs_likes, .ref qs_hates, .ref qs_near])), (qs_slideNames, eJ G 6 qs_slideNames_c), (qs_after, eI G 6 qs_after_c), (qs_hearerNames, eJ G 8 qs_hearerNames_c), (qs_likes, eI G 8 qs_likes_c), (qs_hates, eI G 8 qs_hates_c), (qs_near, eI G 8 qs_near_c), (qt_keyCodes, eJ G 27 qt_keyCodes_c), (qt_bytes, eB G 940 qt_bytes_c), (qt, .inr (8, [.ref qt_keyCodes, .ref qt_bytes, .int qt_size, .int qt_most, .int x1, .int x2, .int x3, .int x4, .long x5, .int x6, .int 1, .int x3]))] H _ := hw
      refine lv_pop C.1 C.2.1 dX5_takeSlide_47 rfl ?_
      refine lv_iload_n C.1 C.2.1 dX5_takeSlide_48 rfl (lv_at hl 0 rfl) ?_
      have hw := hw.sub (w' := [(qs, .inr (4, [.int qs_slides, .int qs_hearers, .int qs_nears, .int qs_lines, .int qs_pass, .int qs_spread, .int qs_lamp, .int qs_behind, .int qs_settingsTold, .ref qs_slideNames, .ref qs_pictures, .ref qs_heats, .ref qs_after, .ref qs_hearerNames, .ref qs_needs, .ref qs_likes, .ref qs_hates, .ref qs_near])), (qs_slideNames, eJ G 6 qs_slideNames_c), (qs_after, eI G 6 qs_after_c), (qs_hearerNames, eJ G 8 qs_hearerNames_c), (qs_likes, eI G 8 qs_likes_c), (qs_hates, eI G 8 qs_hates_c), (qs_near, eI G 8 qs_near_c), (qt, .inr (8, [.ref qt_keyCodes, .ref qt_bytes, .int qt_size, .int qt_most, .int x1, .int x2, .int x3, .int x4, .long x5, .int x6, .int 1, .int x3])), (qt_keyCodes, eJ G 27 qt_keyCodes_c), (qt_bytes, eB G 940 qt_bytes_c)]) [0, 1, 2, 3, 4, 5, 6, 9, 7, 8] rfl rfl
      exact x_retiQ hQ B hw (Or.inl ⟨x1, x2, x3, x4, x5, x6, 1, x3, (-1), rfl, rfl, (by omega), (by omega), (by omega), (by omega), (by decide), (by omega), (by decide), (by have e0 : ((-1) : Int32).toInt = (-1) := rfl; have e1 : (1 : Int32).toInt = 1 := rfl; first | omega), (by have e0 : ((-1) : Int32).toInt = (-1) := rfl; have e1 : (1 : Int32).toInt = 1 := rfl; first | omega), (by have e0 : ((-1) : Int32).toInt = (-1) := rfl; have e1 : (1 : Int32).toInt = 1 := rfl; first | omega)⟩) (Nat.le_of_ble_eq_true rfl) (Nat.le_of_ble_eq_true rfl) dX5_takeSlide_49
    · skip
      have c19 : x2.toInt = 2 := i_eqT (X := x2.toInt) (Y := 2) rfl rfl c19
      refine lv_iconst (v := 3) C.1 C.2.1 dX5_takeSlide_39 (by decide) ?_
      refine lv_goto (tgt := 44) C.1 C.2.1 dX5_takeSlide_40 (by decide) ?_
      refine x_calliV (As := [.int 3]) (rest := []) (wr := [(qs, .inr (4, [.int qs_slides, .int qs_hearers, .int qs_nears, .int qs_lines, .int qs_pass, .int qs_spread, .int qs_lamp, .int qs_behind, .int qs_settingsTold, .ref qs_slideNames, .ref qs_pictures, .ref qs_heats, .ref qs_after, .ref qs_hearerNames, .ref qs_needs, .ref qs_likes, .ref qs_hates, .ref qs_near])), (qs_slideNames, eJ G 6 qs_slideNames_c), (qs_after, eI G 6 qs_after_c), (qs_hearerNames, eJ G 8 qs_hearerNames_c), (qs_likes, eI G 8 qs_likes_c), (qs_hates, eI G 8 qs_hates_c), (qs_near, eI G 8 qs_near_c), (qt_keyCodes, eJ G 27 qt_keyCodes_c), (qt_bytes, eB G 940 qt_bytes_c)]) C hw (e_X9_fail qt 3 qt_keyCodes qt_bytes qt_size qt_most x1 x2 x3 x4 x5 x6 qt_faultPlace) mwX9_fail kw546 [7] [0, 1, 2, 3, 4, 5, 6, 8, 9] rfl rfl rfl rfl (by decide) 0 rfl rfl rfl rfl hl.1 rfl (Nat.le_of_ble_eq_true rfl) ⟨(Nat.le_of_ble_eq_true rfl), (Nat.le_of_ble_eq_true rfl)⟩ ⟨(Nat.le_of_ble_eq_true rfl), (Nat.le_of_ble_eq_true rfl)⟩ dX5_takeSlide_44 (fun r21 u9 H locs hp9 hw => ?_)
      obtain ⟨rfl, rfl⟩ := hp9
      have hw : Wd G s A [(qs, .inr (4, [.int qs_slides, .int qs_hearers, .int qs_nears, .int qs_lines, .int qs_pass, .int qs_spread, .int qs_lamp, .int qs_behind, .int qs_settingsTold, .ref qs_slideNames, .ref qs_pictures, .ref qs_heats, .ref qs_after, .ref qs_hearerNames, .ref qs_needs, .ref qs_likes, .ref qs_hates, .ref qs_near])), (qs_slideNames, eJ G 6 qs_slideNames_c), (qs_after, eI G 6 qs_after_c), (qs_hearerNames, eJ G 8 qs_hearerNames_c), (qs_likes, eI G 8 qs_likes_c), (qs_hates, eI G 8 qs_hates_c), (qs_near, eI G 8 qs_near_c), (qt_keyCodes, eJ G 27 qt_keyCodes_c), (qt_bytes, eB G 940 qt_bytes_c), (qt, .inr (8, [.ref qt_keyCodes, .ref qt_bytes, .int qt_size, .int qt_most, .int x1, .int x2, .int x3, .int x4, .long x5, .int x6, .int 3, .int x3]))] H _ := hw
      refine lv_pop C.1 C.2.1 dX5_takeSlide_47 rfl ?_
      refine lv_iload_n C.1 C.2.1 dX5_takeSlide_48 rfl (lv_at hl 0 rfl) ?_
      have hw := hw.sub (w' := [(qs, .inr (4, [.int qs_slides, .int qs_hearers, .int qs_nears, .int qs_lines, .int qs_pass, .int qs_spread, .int qs_lamp, .int qs_behind, .int qs_settingsTold, .ref qs_slideNames, .ref qs_pictures, .ref qs_heats, .ref qs_after, .ref qs_hearerNames, .ref qs_needs, .ref qs_likes, .ref qs_hates, .ref qs_near])), (qs_slideNames, eJ G 6 qs_slideNames_c), (qs_after, eI G 6 qs_after_c), (qs_hearerNames, eJ G 8 qs_hearerNames_c), (qs_likes, eI G 8 qs_likes_c), (qs_hates, eI G 8 qs_hates_c), (qs_near, eI G 8 qs_near_c), (qt, .inr (8, [.ref qt_keyCodes, .ref qt_bytes, .int qt_size, .int qt_most, .int x1, .int x2, .int x3, .int x4, .long x5, .int x6, .int 3, .int x3])), (qt_keyCodes, eJ G 27 qt_keyCodes_c), (qt_bytes, eB G 940 qt_bytes_c)]) [0, 1, 2, 3, 4, 5, 6, 9, 7, 8] rfl rfl
      exact x_retiQ hQ B hw (Or.inl ⟨x1, x2, x3, x4, x5, x6, 3, x3, (-1), rfl, rfl, (by omega), (by omega), (by omega), (by omega), (by decide), (by omega), (by decide), (by have e0 : ((-1) : Int32).toInt = (-1) := rfl; have e1 : (3 : Int32).toInt = 3 := rfl; first | omega), (by have e0 : ((-1) : Int32).toInt = (-1) := rfl; have e1 : (3 : Int32).toInt = 3 := rfl; first | omega), (by have e0 : ((-1) : Int32).toInt = (-1) := rfl; have e1 : (3 : Int32).toInt = 3 := rfl; first | omega)⟩) (Nat.le_of_ble_eq_true rfl) (Nat.le_of_ble_eq_true rfl) dX5_takeSlide_49
  · skip
    have c18 : x2.toInt = 2 := i_eqT (X := x2.toInt) (Y := 2) rfl rfl c18
    refine lv_aload_n C.1 C.2.1 dX5_takeSlide_12 rfl (lv_at hl 0 rfl) ?_
    refine lv_aload_n C.1 C.2.1 dX5_takeSlide_13 rfl (lv_at hl 1 rfl) ?_
    refine x_get C hw iwX9 8 rfl 7 rfl 8 (by decide) kw104 rfl dX5_takeSlide_14 ?_
    refine x_calliV (As := [.long x5]) (rest := []) (wr := [(qs_after, eI G 6 qs_after_c), (qs_hearerNames, eJ G 8 qs_hearerNames_c), (qs_likes, eI G 8 qs_likes_c), (qs_hates, eI G 8 qs_hates_c), (qs_near, eI G 8 qs_near_c), (qt, .inr (8, [.ref qt_keyCodes, .ref qt_bytes, .int qt_size, .int qt_most, .int x1, .int x2, .int x3, .int x4, .long x5, .int x6, .int 0, .int qt_faultPlace])), (qt_keyCodes, eJ G 27 qt_keyCodes_c), (qt_bytes, eB G 940 qt_bytes_c)]) C hw (e_X5_findSlide qs x5 qs_slides qs_hearers qs_nears qs_lines qs_pass qs_spread qs_lamp qs_behind qs_settingsTold qs_slideNames qs_pictures qs_heats qs_after qs_hearerNames qs_needs qs_likes qs_hates qs_near qs_slideNames_c (by omega)) mwX5_findSlide kw560 [0, 1] [2, 3, 4, 5, 6, 7, 8, 9] rfl rfl rfl rfl (by decide) 0 rfl rfl rfl rfl hl.1 rfl (Nat.le_of_ble_eq_true rfl) ⟨(Nat.le_of_ble_eq_true rfl), (Nat.le_of_ble_eq_true rfl)⟩ ⟨(Nat.le_of_ble_eq_true rfl), (Nat.le_of_ble_eq_true rfl)⟩ dX5_takeSlide_17 (fun r22 u9 H locs hp9 hw => ?_)
    obtain ⟨x23, rfl, rfl, hf24, hf25⟩ := hp9
    have hw : Wd G s A [(qs_after, eI G 6 qs_after_c), (qs_hearerNames, eJ G 8 qs_hearerNames_c), (qs_likes, eI G 8 qs_likes_c), (qs_hates, eI G 8 qs_hates_c), (qs_near, eI G 8 qs_near_c), (qt, .inr (8, [.ref qt_keyCodes, .ref qt_bytes, .int qt_size, .int qt_most, .int x1, .int x2, .int x3, .int x4, .long x5, .int x6, .int 0, .int qt_faultPlace])), (qt_keyCodes, eJ G 27 qt_keyCodes_c), (qt_bytes, eB G 940 qt_bytes_c), (qs, .inr (4, [.int qs_slides, .int qs_hearers, .int qs_nears, .int qs_lines, .int qs_pass, .int qs_spread, .int qs_lamp, .int qs_behind, .int qs_settingsTold, .ref qs_slideNames, .ref qs_pictures, .ref qs_heats, .ref qs_after, .ref qs_hearerNames, .ref qs_needs, .ref qs_likes, .ref qs_hates, .ref qs_near])), (qs_slideNames, eJ G 6 qs_slideNames_c)] H _ := hw
    have hwb := tkW_bd (show tkK b qt_size.toInt qt_most.toInt qt_from.toInt = 2 by omega)
    have hfs : r22.toInt = sF sg (tkW b qt_size.toInt qt_from.toInt) := by rw [hf25]; exact fC_s hr_2 hr_3 (by have := hr_2.1; omega) (by omega) hwb.2.1 hwb.2.2
    refine lv_goto (tgt := 24) C.1 C.2.1 dX5_takeSlide_20 (by decide) ?_
    refine lv_istore_n (lv' := [(2, .int r22), (0, .ref qs), (1, .ref qt)]) C.1 C.2.1 dX5_takeSlide_24 rfl hl (by decide) rfl (fun ls hl => ?_)
    refine lv_iload_n C.1 C.2.1 dX5_takeSlide_25 rfl (lv_at hl 0 rfl) ?_
    refine lv_iconst (v := (-1)) C.1 C.2.1 dX5_takeSlide_26 (by decide) ?_
    refine lv_icmp_ne (tgt := 48) C.1 C.2.1 dX5_takeSlide_27 (by decide) (fun c26 => ?_) (fun c26 => ?_)
    · skip
      have c26 : r22.toInt ≠ (-1) := i_eqF (X := r22.toInt) (Y := (-1)) rfl rfl c26
      refine lv_iload_n C.1 C.2.1 dX5_takeSlide_48 rfl (lv_at hl 0 rfl) ?_
      have hw := hw.sub (w' := [(qs, .inr (4, [.int qs_slides, .int qs_hearers, .int qs_nears, .int qs_lines, .int qs_pass, .int qs_spread, .int qs_lamp, .int qs_behind, .int qs_settingsTold, .ref qs_slideNames, .ref qs_pictures, .ref qs_heats, .ref qs_after, .ref qs_hearerNames, .ref qs_needs, .ref qs_likes, .ref qs_hates, .ref qs_near])), (qs_slideNames, eJ G 6 qs_slideNames_c), (qs_after, eI G 6 qs_after_c), (qs_hearerNames, eJ G 8 qs_hearerNames_c), (qs_likes, eI G 8 qs_likes_c), (qs_hates, eI G 8 qs_hates_c), (qs_near, eI G 8 qs_near_c), (qt, .inr (8, [.ref qt_keyCodes, .ref qt_bytes, .int qt_size, .int qt_most, .int x1, .int x2, .int x3, .int x4, .long x5, .int x6, .int 0, .int qt_faultPlace])), (qt_keyCodes, eJ G 27 qt_keyCodes_c), (qt_bytes, eB G 940 qt_bytes_c)]) [8, 9, 0, 1, 2, 3, 4, 5, 6, 7] rfl rfl
      exact x_retiQ hQ B hw (Or.inr ⟨x1, x2, x3, x4, x5, x6, r22, rfl, rfl, (by omega), (by omega), (by omega), (by omega), (by omega), (by first | omega), (by first | omega), (by first | omega), (by first | omega)⟩) (Nat.le_of_ble_eq_true rfl) (Nat.le_of_ble_eq_true rfl) dX5_takeSlide_49
    · skip
      have c26 : r22.toInt = (-1) := i_eqT (X := r22.toInt) (Y := (-1)) rfl rfl c26
      refine lv_aload_n C.1 C.2.1 dX5_takeSlide_30 rfl (lv_at hl 2 rfl) ?_
      refine lv_aload_n C.1 C.2.1 dX5_takeSlide_31 rfl (lv_at hl 2 rfl) ?_
      refine x_get C hw iwX9 8 rfl 5 rfl 5 (by decide) kw96 rfl dX5_takeSlide_32 ?_
      refine lv_iconst (v := 2) C.1 C.2.1 dX5_takeSlide_35 (by decide) ?_
      refine lv_icmp_ne (tgt := 43) C.1 C.2.1 dX5_takeSlide_36 (by decide) (fun c27 => ?_) (fun c27 => ?_)
      · skip
        have c27 : x2.toInt ≠ 2 := i_eqF (X := x2.toInt) (Y := 2) rfl rfl c27
        exfalso; omega
      · skip
        have c27 : x2.toInt = 2 := i_eqT (X := x2.toInt) (Y := 2) rfl rfl c27
        refine lv_iconst (v := 3) C.1 C.2.1 dX5_takeSlide_39 (by decide) ?_
        refine lv_goto (tgt := 44) C.1 C.2.1 dX5_takeSlide_40 (by decide) ?_
        refine x_calliV (As := [.int 3]) (rest := []) (wr := [(qs_after, eI G 6 qs_after_c), (qs_hearerNames, eJ G 8 qs_hearerNames_c), (qs_likes, eI G 8 qs_likes_c), (qs_hates, eI G 8 qs_hates_c), (qs_near, eI G 8 qs_near_c), (qt_keyCodes, eJ G 27 qt_keyCodes_c), (qt_bytes, eB G 940 qt_bytes_c), (qs, .inr (4, [.int qs_slides, .int qs_hearers, .int qs_nears, .int qs_lines, .int qs_pass, .int qs_spread, .int qs_lamp, .int qs_behind, .int qs_settingsTold, .ref qs_slideNames, .ref qs_pictures, .ref qs_heats, .ref qs_after, .ref qs_hearerNames, .ref qs_needs, .ref qs_likes, .ref qs_hates, .ref qs_near])), (qs_slideNames, eJ G 6 qs_slideNames_c)]) C hw (e_X9_fail qt 3 qt_keyCodes qt_bytes qt_size qt_most x1 x2 x3 x4 x5 x6 qt_faultPlace) mwX9_fail kw546 [5] [0, 1, 2, 3, 4, 6, 7, 8, 9] rfl rfl rfl rfl (by decide) 0 rfl rfl rfl rfl hl.1 rfl (Nat.le_of_ble_eq_true rfl) ⟨(Nat.le_of_ble_eq_true rfl), (Nat.le_of_ble_eq_true rfl)⟩ ⟨(Nat.le_of_ble_eq_true rfl), (Nat.le_of_ble_eq_true rfl)⟩ dX5_takeSlide_44 (fun r28 u9 H locs hp9 hw => ?_)
        obtain ⟨rfl, rfl⟩ := hp9
        have hw : Wd G s A [(qs_after, eI G 6 qs_after_c), (qs_hearerNames, eJ G 8 qs_hearerNames_c), (qs_likes, eI G 8 qs_likes_c), (qs_hates, eI G 8 qs_hates_c), (qs_near, eI G 8 qs_near_c), (qt_keyCodes, eJ G 27 qt_keyCodes_c), (qt_bytes, eB G 940 qt_bytes_c), (qs, .inr (4, [.int qs_slides, .int qs_hearers, .int qs_nears, .int qs_lines, .int qs_pass, .int qs_spread, .int qs_lamp, .int qs_behind, .int qs_settingsTold, .ref qs_slideNames, .ref qs_pictures, .ref qs_heats, .ref qs_after, .ref qs_hearerNames, .ref qs_needs, .ref qs_likes, .ref qs_hates, .ref qs_near])), (qs_slideNames, eJ G 6 qs_slideNames_c), (qt, .inr (8, [.ref qt_keyCodes, .ref qt_bytes, .int qt_size, .int qt_most, .int x1, .int x2, .int x3, .int x4, .long x5, .int x6, .int 3, .int x3]))] H _ := hw
        refine lv_pop C.1 C.2.1 dX5_takeSlide_47 rfl ?_
        refine lv_iload_n C.1 C.2.1 dX5_takeSlide_48 rfl (lv_at hl 0 rfl) ?_
        have hw := hw.sub (w' := [(qs, .inr (4, [.int qs_slides, .int qs_hearers, .int qs_nears, .int qs_lines, .int qs_pass, .int qs_spread, .int qs_lamp, .int qs_behind, .int qs_settingsTold, .ref qs_slideNames, .ref qs_pictures, .ref qs_heats, .ref qs_after, .ref qs_hearerNames, .ref qs_needs, .ref qs_likes, .ref qs_hates, .ref qs_near])), (qs_slideNames, eJ G 6 qs_slideNames_c), (qs_after, eI G 6 qs_after_c), (qs_hearerNames, eJ G 8 qs_hearerNames_c), (qs_likes, eI G 8 qs_likes_c), (qs_hates, eI G 8 qs_hates_c), (qs_near, eI G 8 qs_near_c), (qt, .inr (8, [.ref qt_keyCodes, .ref qt_bytes, .int qt_size, .int qt_most, .int x1, .int x2, .int x3, .int x4, .long x5, .int x6, .int 3, .int x3])), (qt_keyCodes, eJ G 27 qt_keyCodes_c), (qt_bytes, eB G 940 qt_bytes_c)]) [7, 8, 0, 1, 2, 3, 4, 9, 5, 6] rfl rfl
        exact x_retiQ hQ B hw (Or.inl ⟨x1, x2, x3, x4, x5, x6, 3, x3, r22, rfl, rfl, (by omega), (by omega), (by omega), (by omega), (by decide), (by omega), (by omega), (by have e0 : (3 : Int32).toInt = 3 := rfl; first | omega), (by have e0 : (3 : Int32).toInt = 3 := rfl; first | omega), (by have e0 : (3 : Int32).toInt = 3 := rfl; first | omega)⟩) (Nat.le_of_ble_eq_true rfl) (Nat.le_of_ble_eq_true rfl) dX5_takeSlide_49
theorem dX5_takeHearer_0 : decode cX5_takeHearer 0 = .ok (.aload_n 1, 1) := by decide +kernel
theorem dX5_takeHearer_1 : decode cX5_takeHearer 1 = .ok (.invokevirtual 77, 3) := by decide +kernel
theorem dX5_takeHearer_4 : decode cX5_takeHearer 4 = .ok (.aload_n 1, 1) := by decide +kernel
theorem dX5_takeHearer_5 : decode cX5_takeHearer 5 = .ok (.getfield 82, 3) := by decide +kernel
theorem dX5_takeHearer_8 : decode cX5_takeHearer 8 = .ok (.iconst 2, 1) := by decide +kernel
theorem dX5_takeHearer_9 : decode cX5_takeHearer 9 = .ok (.if_icmp .ne 14, 3) := by decide +kernel
theorem dX5_takeHearer_23 : decode cX5_takeHearer 23 = .ok (.iconst (-1), 1) := by decide +kernel
theorem dX5_takeHearer_24 : decode cX5_takeHearer 24 = .ok (.istore_n 2, 1) := by decide +kernel
theorem dX5_takeHearer_25 : decode cX5_takeHearer 25 = .ok (.iload_n 2, 1) := by decide +kernel
theorem dX5_takeHearer_26 : decode cX5_takeHearer 26 = .ok (.iconst (-1), 1) := by decide +kernel
theorem dX5_takeHearer_27 : decode cX5_takeHearer 27 = .ok (.if_icmp .ne 21, 3) := by decide +kernel
theorem dX5_takeHearer_30 : decode cX5_takeHearer 30 = .ok (.aload_n 1, 1) := by decide +kernel
theorem dX5_takeHearer_31 : decode cX5_takeHearer 31 = .ok (.aload_n 1, 1) := by decide +kernel
theorem dX5_takeHearer_32 : decode cX5_takeHearer 32 = .ok (.getfield 82, 3) := by decide +kernel
theorem dX5_takeHearer_35 : decode cX5_takeHearer 35 = .ok (.iconst 2, 1) := by decide +kernel
theorem dX5_takeHearer_36 : decode cX5_takeHearer 36 = .ok (.if_icmp .ne 7, 3) := by decide +kernel
theorem dX5_takeHearer_43 : decode cX5_takeHearer 43 = .ok (.iconst 1, 1) := by decide +kernel
theorem dX5_takeHearer_44 : decode cX5_takeHearer 44 = .ok (.invokevirtual 116, 3) := by decide +kernel
theorem dX5_takeHearer_47 : decode cX5_takeHearer 47 = .ok (.pop, 1) := by decide +kernel
theorem dX5_takeHearer_48 : decode cX5_takeHearer 48 = .ok (.iload_n 2, 1) := by decide +kernel
theorem dX5_takeHearer_49 : decode cX5_takeHearer 49 = .ok (.ireturn, 1) := by decide +kernel
theorem dX5_takeHearer_39 : decode cX5_takeHearer 39 = .ok (.iconst 3, 1) := by decide +kernel
theorem dX5_takeHearer_40 : decode cX5_takeHearer 40 = .ok (.goto 4, 3) := by decide +kernel
theorem dX5_takeHearer_12 : decode cX5_takeHearer 12 = .ok (.aload_n 0, 1) := by decide +kernel
theorem dX5_takeHearer_13 : decode cX5_takeHearer 13 = .ok (.aload_n 1, 1) := by decide +kernel
theorem dX5_takeHearer_14 : decode cX5_takeHearer 14 = .ok (.getfield 123, 3) := by decide +kernel
theorem dX5_takeHearer_17 : decode cX5_takeHearer 17 = .ok (.invokevirtual 161, 3) := by decide +kernel
theorem dX5_takeHearer_20 : decode cX5_takeHearer 20 = .ok (.goto 4, 3) := by decide +kernel
set_option maxHeartbeats 4000000 in
set_option maxRecDepth 100000 in
theorem e_X5_takeHearer {l : Launch} {G : Gc} (qs : Nat) (qt : Nat) (qs_slides : Int32) (qs_hearers : Int32) (qs_nears : Int32) (qs_lines : Int32) (qs_pass : Int32) (qs_spread : Int32) (qs_lamp : Int32) (qs_behind : Int32) (qs_settingsTold : Int32) (qs_slideNames : Nat) (qs_pictures : Nat) (qs_heats : Nat) (qs_after : Nat) (qs_hearerNames : Nat) (qs_needs : Nat) (qs_likes : Nat) (qs_hates : Nat) (qs_near : Nat) (qs_slideNames_c : Nat → Int64) (qs_after_c : Nat → Int32) (qs_hearerNames_c : Nat → Int64) (qs_likes_c : Nat → Int32) (qs_hates_c : Nat → Int32) (qs_near_c : Nat → Int32) (qt_keyCodes : Nat) (qt_bytes : Nat) (qt_size : Int32) (qt_most : Int32) (qt_from : Int32) (qt_kind : Int32) (qt_place : Int32) (qt_value : Int32) (qt_code : Int64) (qt_key : Int32) (qt_faultPlace : Int32) (qt_keyCodes_c : Nat → Int64) (qt_bytes_c : Nat → Int32) (b : Int → Int) (sg : Nat → Int) (hi_qt_from : 0 ≤ qt_from.toInt ∧ qt_from.toInt ≤ 940) (hi_qt_most : 0 ≤ qt_most.toInt ∧ qt_most.toInt ≤ 900) (hi_qs_slides : 0 ≤ qs_slides.toInt ∧ qs_slides.toInt ≤ 6) (hi_qs_hearers : 0 ≤ qs_hearers.toInt ∧ qs_hearers.toInt ≤ 8) (hf_qs_after_c : inA 6 (-1) 5 qs_after_c) (hi_qt_size : 0 ≤ qt_size.toInt ∧ qt_size.toInt ≤ 940) (hr_0 : tbC b qt_bytes_c qt_size) (hr_1 : kcI qt_keyCodes_c) (hr_2 : rlC sg qs_slides qs_hearers qs_nears qs_pass qs_spread qs_lamp qs_settingsTold qs_slideNames_c qs_after_c qs_hearerNames_c qs_likes_c qs_hates_c qs_near_c) (hr_3 : sgI sg ) : Ci l yX5_takeHearer cX5_takeHearer 3 (some .int) 3 0 0 G [.ref qs, .ref qt] [(qs, .inr (4, [.int qs_slides, .int qs_hearers, .int qs_nears, .int qs_lines, .int qs_pass, .int qs_spread, .int qs_lamp, .int qs_behind, .int qs_settingsTold, .ref qs_slideNames, .ref qs_pictures, .ref qs_heats, .ref qs_after, .ref qs_hearerNames, .ref qs_needs, .ref qs_likes, .ref qs_hates, .ref qs_near])), (qs_slideNames, eJ G 6 qs_slideNames_c), (qs_after, eI G 6 qs_after_c), (qs_hearerNames, eJ G 8 qs_hearerNames_c), (qs_likes, eI G 8 qs_likes_c), (qs_hates, eI G 8 qs_hates_c), (qs_near, eI G 8 qs_near_c), (qt, .inr (8, [.ref qt_keyCodes, .ref qt_bytes, .int qt_size, .int qt_most, .int qt_from, .int qt_kind, .int qt_place, .int qt_value, .long qt_code, .int qt_key, .int 0, .int qt_faultPlace])), (qt_keyCodes, eJ G 27 qt_keyCodes_c), (qt_bytes, eB G 940 qt_bytes_c)] (fun (r9 : Int32) (u9 : va_W) => (∃ (x0_qt_from : Int32) (x1_qt_kind : Int32) (x2_qt_place : Int32) (x3_qt_value : Int32) (x4_qt_code : Int64) (x5_qt_key : Int32) (x6_0 : Int32) (x7_qt_faultPlace : Int32) (r_x : Int32), r9 = r_x ∧ u9 = [(qs, .inr (4, [.int qs_slides, .int qs_hearers, .int qs_nears, .int qs_lines, .int qs_pass, .int qs_spread, .int qs_lamp, .int qs_behind, .int qs_settingsTold, .ref qs_slideNames, .ref qs_pictures, .ref qs_heats, .ref qs_after, .ref qs_hearerNames, .ref qs_needs, .ref qs_likes, .ref qs_hates, .ref qs_near])), (qs_slideNames, eJ G 6 qs_slideNames_c), (qs_after, eI G 6 qs_after_c), (qs_hearerNames, eJ G 8 qs_hearerNames_c), (qs_likes, eI G 8 qs_likes_c), (qs_hates, eI G 8 qs_hates_c), (qs_near, eI G 8 qs_near_c), (qt, .inr (8, [.ref qt_keyCodes, .ref qt_bytes, .int qt_size, .int qt_most, .int x0_qt_from, .int x1_qt_kind, .int x2_qt_place, .int x3_qt_value, .long x4_qt_code, .int x5_qt_key, .int x6_0, .int x7_qt_faultPlace])), (qt_keyCodes, eJ G 27 qt_keyCodes_c), (qt_bytes, eB G 940 qt_bytes_c)] ∧ (0 ≤ x0_qt_from.toInt ∧ x0_qt_from.toInt ≤ 940) ∧ (0 ≤ x1_qt_kind.toInt ∧ x1_qt_kind.toInt ≤ 5) ∧ (0 ≤ x2_qt_place.toInt ∧ x2_qt_place.toInt ≤ 940) ∧ ((-1) ≤ x5_qt_key.toInt ∧ x5_qt_key.toInt ≤ 33) ∧ (1 ≤ x6_0.toInt ∧ x6_0.toInt ≤ 3) ∧ (0 ≤ x7_qt_faultPlace.toInt ∧ x7_qt_faultPlace.toInt ≤ 940) ∧ ((-1) ≤ r_x.toInt ∧ r_x.toInt ≤ (-1)) ∧ (x7_qt_faultPlace.toInt = tkP b qt_size.toInt qt_most.toInt qt_from.toInt) ∧ ((¬ (tkK b qt_size.toInt qt_most.toInt qt_from.toInt = 2 ∧ kyN (tkW b qt_size.toInt qt_from.toInt) = -1) ∧ x6_0.toInt = 1) ∨ ((tkK b qt_size.toInt qt_most.toInt qt_from.toInt = 2 ∧ kyN (tkW b qt_size.toInt qt_from.toInt) = -1) ∧ hF sg (tkW b qt_size.toInt qt_from.toInt) = -1 ∧ x6_0.toInt = 3)) ∧ (r_x.toInt = -1)) ∨ (∃ (x0_qt_from : Int32) (x1_qt_kind : Int32) (x2_qt_place : Int32) (x3_qt_value : Int32) (x4_qt_code : Int64) (x5_qt_key : Int32) (r_x : Int32), r9 = r_x ∧ u9 = [(qs, .inr (4, [.int qs_slides, .int qs_hearers, .int qs_nears, .int qs_lines, .int qs_pass, .int qs_spread, .int qs_lamp, .int qs_behind, .int qs_settingsTold, .ref qs_slideNames, .ref qs_pictures, .ref qs_heats, .ref qs_after, .ref qs_hearerNames, .ref qs_needs, .ref qs_likes, .ref qs_hates, .ref qs_near])), (qs_slideNames, eJ G 6 qs_slideNames_c), (qs_after, eI G 6 qs_after_c), (qs_hearerNames, eJ G 8 qs_hearerNames_c), (qs_likes, eI G 8 qs_likes_c), (qs_hates, eI G 8 qs_hates_c), (qs_near, eI G 8 qs_near_c), (qt, .inr (8, [.ref qt_keyCodes, .ref qt_bytes, .int qt_size, .int qt_most, .int x0_qt_from, .int x1_qt_kind, .int x2_qt_place, .int x3_qt_value, .long x4_qt_code, .int x5_qt_key, .int 0, .int qt_faultPlace])), (qt_keyCodes, eJ G 27 qt_keyCodes_c), (qt_bytes, eB G 940 qt_bytes_c)] ∧ (0 ≤ x0_qt_from.toInt ∧ x0_qt_from.toInt ≤ 940) ∧ (2 ≤ x1_qt_kind.toInt ∧ x1_qt_kind.toInt ≤ 2) ∧ (0 ≤ x2_qt_place.toInt ∧ x2_qt_place.toInt ≤ 940) ∧ ((-1) ≤ x5_qt_key.toInt ∧ x5_qt_key.toInt ≤ 33) ∧ (0 ≤ r_x.toInt ∧ r_x.toInt ≤ 7) ∧ (x0_qt_from.toInt = tkX b qt_size.toInt qt_most.toInt qt_from.toInt) ∧ (x2_qt_place.toInt = tkP b qt_size.toInt qt_most.toInt qt_from.toInt) ∧ (tkK b qt_size.toInt qt_most.toInt qt_from.toInt = 2 ∧ kyN (tkW b qt_size.toInt qt_from.toInt) = -1) ∧ (r_x.toInt = hF sg (tkW b qt_size.toInt qt_from.toInt) ∧ 0 ≤ r_x.toInt))) := by
  refine Ci.ofQ (by decide) (Nat.le_of_ble_eq_true rfl) ?_
  intro p e s m below meth c ls A args Q hQ B hw hl
  have C : CallFix p m c cX5_takeHearer 3 s args gw "LanternState$Scene" := B.1
  have hl : lv_has ls 3 [(0, .ref qs), (1, .ref qt)] := hl
  refine lv_aload_n C.1 C.2.1 dX5_takeHearer_0 rfl (lv_at hl 1 rfl) ?_
  refine x_callvV (As := []) (rest := []) (wr := [(qs, .inr (4, [.int qs_slides, .int qs_hearers, .int qs_nears, .int qs_lines, .int qs_pass, .int qs_spread, .int qs_lamp, .int qs_behind, .int qs_settingsTold, .ref qs_slideNames, .ref qs_pictures, .ref qs_heats, .ref qs_after, .ref qs_hearerNames, .ref qs_needs, .ref qs_likes, .ref qs_hates, .ref qs_near])), (qs_slideNames, eJ G 6 qs_slideNames_c), (qs_after, eI G 6 qs_after_c), (qs_hearerNames, eJ G 8 qs_hearerNames_c), (qs_likes, eI G 8 qs_likes_c), (qs_hates, eI G 8 qs_hates_c), (qs_near, eI G 8 qs_near_c)]) C hw (e_X9_next qt qt_keyCodes qt_bytes qt_size qt_most qt_from qt_kind qt_place qt_value qt_code qt_key 0 qt_faultPlace qt_keyCodes_c qt_bytes_c b (by omega) (by omega) (by omega) hr_0 hr_1) mwX9_next kw526 [7, 8, 9] [0, 1, 2, 3, 4, 5, 6] rfl rfl rfl rfl (by decide) 0 rfl rfl rfl rfl hl.1 rfl (Nat.le_of_ble_eq_true rfl) ⟨(Nat.le_of_ble_eq_true rfl), (Nat.le_of_ble_eq_true rfl)⟩ ⟨(Nat.le_of_ble_eq_true rfl), (Nat.le_of_ble_eq_true rfl)⟩ dX5_takeHearer_1 (fun  u9 H locs hp9 hw => ?_)
  obtain ⟨x1, x2, x3, x4, x5, x6, rfl, hf7, hf8, hf9, hf10, hf11, hf12, hf13, hf14, hf15, hf16, hf17⟩ := hp9
  have hw : Wd G s A [(qs, .inr (4, [.int qs_slides, .int qs_hearers, .int qs_nears, .int qs_lines, .int qs_pass, .int qs_spread, .int qs_lamp, .int qs_behind, .int qs_settingsTold, .ref qs_slideNames, .ref qs_pictures, .ref qs_heats, .ref qs_after, .ref qs_hearerNames, .ref qs_needs, .ref qs_likes, .ref qs_hates, .ref qs_near])), (qs_slideNames, eJ G 6 qs_slideNames_c), (qs_after, eI G 6 qs_after_c), (qs_hearerNames, eJ G 8 qs_hearerNames_c), (qs_likes, eI G 8 qs_likes_c), (qs_hates, eI G 8 qs_hates_c), (qs_near, eI G 8 qs_near_c), (qt, .inr (8, [.ref qt_keyCodes, .ref qt_bytes, .int qt_size, .int qt_most, .int x1, .int x2, .int x3, .int x4, .long x5, .int x6, .int 0, .int qt_faultPlace])), (qt_keyCodes, eJ G 27 qt_keyCodes_c), (qt_bytes, eB G 940 qt_bytes_c)] H _ := hw
  refine lv_aload_n C.1 C.2.1 dX5_takeHearer_4 rfl (lv_at hl 1 rfl) ?_
  refine x_get C hw iwX9 8 rfl 7 rfl 5 (by decide) kw96 rfl dX5_takeHearer_5 ?_
  refine lv_iconst (v := 2) C.1 C.2.1 dX5_takeHearer_8 (by decide) ?_
  refine lv_icmp_ne (tgt := 23) C.1 C.2.1 dX5_takeHearer_9 (by decide) (fun c18 => ?_) (fun c18 => ?_)
  · skip
    have c18 : x2.toInt ≠ 2 := i_eqF (X := x2.toInt) (Y := 2) rfl rfl c18
    refine lv_iconst (v := (-1)) C.1 C.2.1 dX5_takeHearer_23 (by decide) ?_
    refine lv_istore_n (lv' := [(2, .int (-1)), (0, .ref qs), (1, .ref qt)]) C.1 C.2.1 dX5_takeHearer_24 rfl hl (by decide) rfl (fun ls hl => ?_)
    refine lv_iload_n C.1 C.2.1 dX5_takeHearer_25 rfl (lv_at hl 0 rfl) ?_
    refine lv_iconst (v := (-1)) C.1 C.2.1 dX5_takeHearer_26 (by decide) ?_
    refine lv_icmp_ne (tgt := 48) C.1 C.2.1 dX5_takeHearer_27 (by decide) (fun h9 => absurd (by decide) h9) (fun _ => ?_)
    refine lv_aload_n C.1 C.2.1 dX5_takeHearer_30 rfl (lv_at hl 2 rfl) ?_
    refine lv_aload_n C.1 C.2.1 dX5_takeHearer_31 rfl (lv_at hl 2 rfl) ?_
    refine x_get C hw iwX9 8 rfl 7 rfl 5 (by decide) kw96 rfl dX5_takeHearer_32 ?_
    refine lv_iconst (v := 2) C.1 C.2.1 dX5_takeHearer_35 (by decide) ?_
    refine lv_icmp_ne (tgt := 43) C.1 C.2.1 dX5_takeHearer_36 (by decide) (fun c19 => ?_) (fun c19 => ?_)
    · skip
      have c19 : x2.toInt ≠ 2 := i_eqF (X := x2.toInt) (Y := 2) rfl rfl c19
      refine lv_iconst (v := 1) C.1 C.2.1 dX5_takeHearer_43 (by decide) ?_
      refine x_calliV (As := [.int 1]) (rest := []) (wr := [(qs, .inr (4, [.int qs_slides, .int qs_hearers, .int qs_nears, .int qs_lines, .int qs_pass, .int qs_spread, .int qs_lamp, .int qs_behind, .int qs_settingsTold, .ref qs_slideNames, .ref qs_pictures, .ref qs_heats, .ref qs_after, .ref qs_hearerNames, .ref qs_needs, .ref qs_likes, .ref qs_hates, .ref qs_near])), (qs_slideNames, eJ G 6 qs_slideNames_c), (qs_after, eI G 6 qs_after_c), (qs_hearerNames, eJ G 8 qs_hearerNames_c), (qs_likes, eI G 8 qs_likes_c), (qs_hates, eI G 8 qs_hates_c), (qs_near, eI G 8 qs_near_c), (qt_keyCodes, eJ G 27 qt_keyCodes_c), (qt_bytes, eB G 940 qt_bytes_c)]) C hw (e_X9_fail qt 1 qt_keyCodes qt_bytes qt_size qt_most x1 x2 x3 x4 x5 x6 qt_faultPlace) mwX9_fail kw546 [7] [0, 1, 2, 3, 4, 5, 6, 8, 9] rfl rfl rfl rfl (by decide) 0 rfl rfl rfl rfl hl.1 rfl (Nat.le_of_ble_eq_true rfl) ⟨(Nat.le_of_ble_eq_true rfl), (Nat.le_of_ble_eq_true rfl)⟩ ⟨(Nat.le_of_ble_eq_true rfl), (Nat.le_of_ble_eq_true rfl)⟩ dX5_takeHearer_44 (fun r20 u9 H locs hp9 hw => ?_)
      obtain ⟨rfl, rfl⟩ := hp9
      have hw : Wd G s A [(qs, .inr (4, [.int qs_slides, .int qs_hearers, .int qs_nears, .int qs_lines, .int qs_pass, .int qs_spread, .int qs_lamp, .int qs_behind, .int qs_settingsTold, .ref qs_slideNames, .ref qs_pictures, .ref qs_heats, .ref qs_after, .ref qs_hearerNames, .ref qs_needs, .ref qs_likes, .ref qs_hates, .ref qs_near])), (qs_slideNames, eJ G 6 qs_slideNames_c), (qs_after, eI G 6 qs_after_c), (qs_hearerNames, eJ G 8 qs_hearerNames_c), (qs_likes, eI G 8 qs_likes_c), (qs_hates, eI G 8 qs_hates_c), (qs_near, eI G 8 qs_near_c), (qt_keyCodes, eJ G 27 qt_keyCodes_c), (qt_bytes, eB G 940 qt_bytes_c), (qt, .inr (8, [.ref qt_keyCodes, .ref qt_bytes, .int qt_size, .int qt_most, .int x1, .int x2, .int x3, .int x4, .long x5, .int x6, .int 1, .int x3]))] H _ := hw
      refine lv_pop C.1 C.2.1 dX5_takeHearer_47 rfl ?_
      refine lv_iload_n C.1 C.2.1 dX5_takeHearer_48 rfl (lv_at hl 0 rfl) ?_
      have hw := hw.sub (w' := [(qs, .inr (4, [.int qs_slides, .int qs_hearers, .int qs_nears, .int qs_lines, .int qs_pass, .int qs_spread, .int qs_lamp, .int qs_behind, .int qs_settingsTold, .ref qs_slideNames, .ref qs_pictures, .ref qs_heats, .ref qs_after, .ref qs_hearerNames, .ref qs_needs, .ref qs_likes, .ref qs_hates, .ref qs_near])), (qs_slideNames, eJ G 6 qs_slideNames_c), (qs_after, eI G 6 qs_after_c), (qs_hearerNames, eJ G 8 qs_hearerNames_c), (qs_likes, eI G 8 qs_likes_c), (qs_hates, eI G 8 qs_hates_c), (qs_near, eI G 8 qs_near_c), (qt, .inr (8, [.ref qt_keyCodes, .ref qt_bytes, .int qt_size, .int qt_most, .int x1, .int x2, .int x3, .int x4, .long x5, .int x6, .int 1, .int x3])), (qt_keyCodes, eJ G 27 qt_keyCodes_c), (qt_bytes, eB G 940 qt_bytes_c)]) [0, 1, 2, 3, 4, 5, 6, 9, 7, 8] rfl rfl
      exact x_retiQ hQ B hw (Or.inl ⟨x1, x2, x3, x4, x5, x6, 1, x3, (-1), rfl, rfl, (by omega), (by omega), (by omega), (by omega), (by decide), (by omega), (by decide), (by have e0 : ((-1) : Int32).toInt = (-1) := rfl; have e1 : (1 : Int32).toInt = 1 := rfl; first | omega), (by have e0 : ((-1) : Int32).toInt = (-1) := rfl; have e1 : (1 : Int32).toInt = 1 := rfl; first | omega), (by have e0 : ((-1) : Int32).toInt = (-1) := rfl; have e1 : (1 : Int32).toInt = 1 := rfl; first | omega)⟩) (Nat.le_of_ble_eq_true rfl) (Nat.le_of_ble_eq_true rfl) dX5_takeHearer_49
    · skip
      have c19 : x2.toInt = 2 := i_eqT (X := x2.toInt) (Y := 2) rfl rfl c19
      refine lv_iconst (v := 3) C.1 C.2.1 dX5_takeHearer_39 (by decide) ?_
      refine lv_goto (tgt := 44) C.1 C.2.1 dX5_takeHearer_40 (by decide) ?_
      refine x_calliV (As := [.int 3]) (rest := []) (wr := [(qs, .inr (4, [.int qs_slides, .int qs_hearers, .int qs_nears, .int qs_lines, .int qs_pass, .int qs_spread, .int qs_lamp, .int qs_behind, .int qs_settingsTold, .ref qs_slideNames, .ref qs_pictures, .ref qs_heats, .ref qs_after, .ref qs_hearerNames, .ref qs_needs, .ref qs_likes, .ref qs_hates, .ref qs_near])), (qs_slideNames, eJ G 6 qs_slideNames_c), (qs_after, eI G 6 qs_after_c), (qs_hearerNames, eJ G 8 qs_hearerNames_c), (qs_likes, eI G 8 qs_likes_c), (qs_hates, eI G 8 qs_hates_c), (qs_near, eI G 8 qs_near_c), (qt_keyCodes, eJ G 27 qt_keyCodes_c), (qt_bytes, eB G 940 qt_bytes_c)]) C hw (e_X9_fail qt 3 qt_keyCodes qt_bytes qt_size qt_most x1 x2 x3 x4 x5 x6 qt_faultPlace) mwX9_fail kw546 [7] [0, 1, 2, 3, 4, 5, 6, 8, 9] rfl rfl rfl rfl (by decide) 0 rfl rfl rfl rfl hl.1 rfl (Nat.le_of_ble_eq_true rfl) ⟨(Nat.le_of_ble_eq_true rfl), (Nat.le_of_ble_eq_true rfl)⟩ ⟨(Nat.le_of_ble_eq_true rfl), (Nat.le_of_ble_eq_true rfl)⟩ dX5_takeHearer_44 (fun r21 u9 H locs hp9 hw => ?_)
      obtain ⟨rfl, rfl⟩ := hp9
      have hw : Wd G s A [(qs, .inr (4, [.int qs_slides, .int qs_hearers, .int qs_nears, .int qs_lines, .int qs_pass, .int qs_spread, .int qs_lamp, .int qs_behind, .int qs_settingsTold, .ref qs_slideNames, .ref qs_pictures, .ref qs_heats, .ref qs_after, .ref qs_hearerNames, .ref qs_needs, .ref qs_likes, .ref qs_hates, .ref qs_near])), (qs_slideNames, eJ G 6 qs_slideNames_c), (qs_after, eI G 6 qs_after_c), (qs_hearerNames, eJ G 8 qs_hearerNames_c), (qs_likes, eI G 8 qs_likes_c), (qs_hates, eI G 8 qs_hates_c), (qs_near, eI G 8 qs_near_c), (qt_keyCodes, eJ G 27 qt_keyCodes_c), (qt_bytes, eB G 940 qt_bytes_c), (qt, .inr (8, [.ref qt_keyCodes, .ref qt_bytes, .int qt_size, .int qt_most, .int x1, .int x2, .int x3, .int x4, .long x5, .int x6, .int 3, .int x3]))] H _ := hw
      refine lv_pop C.1 C.2.1 dX5_takeHearer_47 rfl ?_
      refine lv_iload_n C.1 C.2.1 dX5_takeHearer_48 rfl (lv_at hl 0 rfl) ?_
      have hw := hw.sub (w' := [(qs, .inr (4, [.int qs_slides, .int qs_hearers, .int qs_nears, .int qs_lines, .int qs_pass, .int qs_spread, .int qs_lamp, .int qs_behind, .int qs_settingsTold, .ref qs_slideNames, .ref qs_pictures, .ref qs_heats, .ref qs_after, .ref qs_hearerNames, .ref qs_needs, .ref qs_likes, .ref qs_hates, .ref qs_near])), (qs_slideNames, eJ G 6 qs_slideNames_c), (qs_after, eI G 6 qs_after_c), (qs_hearerNames, eJ G 8 qs_hearerNames_c), (qs_likes, eI G 8 qs_likes_c), (qs_hates, eI G 8 qs_hates_c), (qs_near, eI G 8 qs_near_c), (qt, .inr (8, [.ref qt_keyCodes, .ref qt_bytes, .int qt_size, .int qt_most, .int x1, .int x2, .int x3, .int x4, .long x5, .int x6, .int 3, .int x3])), (qt_keyCodes, eJ G 27 qt_keyCodes_c), (qt_bytes, eB G 940 qt_bytes_c)]) [0, 1, 2, 3, 4, 5, 6, 9, 7, 8] rfl rfl
      exact x_retiQ hQ B hw (Or.inl ⟨x1, x2, x3, x4, x5, x6, 3, x3, (-1), rfl, rfl, (by omega), (by omega), (by omega), (by omega), (by decide), (by omega), (by decide), (by have e0 : ((-1) : Int32).toInt = (-1) := rfl; have e1 : (3 : Int32).toInt = 3 := rfl; first | omega), (by have e0 : ((-1) : Int32).toInt = (-1) := rfl; have e1 : (3 : Int32).toInt = 3 := rfl; first | omega), (by have e0 : ((-1) : Int32).toInt = (-1) := rfl; have e1 : (3 : Int32).toInt = 3 := rfl; first | omega)⟩) (Nat.le_of_ble_eq_true rfl) (Nat.le_of_ble_eq_true rfl) dX5_takeHearer_49
  · skip
    have c18 : x2.toInt = 2 := i_eqT (X := x2.toInt) (Y := 2) rfl rfl c18
    refine lv_aload_n C.1 C.2.1 dX5_takeHearer_12 rfl (lv_at hl 0 rfl) ?_
    refine lv_aload_n C.1 C.2.1 dX5_takeHearer_13 rfl (lv_at hl 1 rfl) ?_
    refine x_get C hw iwX9 8 rfl 7 rfl 8 (by decide) kw104 rfl dX5_takeHearer_14 ?_
    refine x_calliV (As := [.long x5]) (rest := []) (wr := [(qs_slideNames, eJ G 6 qs_slideNames_c), (qs_after, eI G 6 qs_after_c), (qs_likes, eI G 8 qs_likes_c), (qs_hates, eI G 8 qs_hates_c), (qs_near, eI G 8 qs_near_c), (qt, .inr (8, [.ref qt_keyCodes, .ref qt_bytes, .int qt_size, .int qt_most, .int x1, .int x2, .int x3, .int x4, .long x5, .int x6, .int 0, .int qt_faultPlace])), (qt_keyCodes, eJ G 27 qt_keyCodes_c), (qt_bytes, eB G 940 qt_bytes_c)]) C hw (e_X5_findHearer qs x5 qs_slides qs_hearers qs_nears qs_lines qs_pass qs_spread qs_lamp qs_behind qs_settingsTold qs_slideNames qs_pictures qs_heats qs_after qs_hearerNames qs_needs qs_likes qs_hates qs_near qs_hearerNames_c (by omega)) mwX5_findHearer kw564 [0, 3] [1, 2, 4, 5, 6, 7, 8, 9] rfl rfl rfl rfl (by decide) 0 rfl rfl rfl rfl hl.1 rfl (Nat.le_of_ble_eq_true rfl) ⟨(Nat.le_of_ble_eq_true rfl), (Nat.le_of_ble_eq_true rfl)⟩ ⟨(Nat.le_of_ble_eq_true rfl), (Nat.le_of_ble_eq_true rfl)⟩ dX5_takeHearer_17 (fun r22 u9 H locs hp9 hw => ?_)
    obtain ⟨x23, rfl, rfl, hf24, hf25⟩ := hp9
    have hw : Wd G s A [(qs_slideNames, eJ G 6 qs_slideNames_c), (qs_after, eI G 6 qs_after_c), (qs_likes, eI G 8 qs_likes_c), (qs_hates, eI G 8 qs_hates_c), (qs_near, eI G 8 qs_near_c), (qt, .inr (8, [.ref qt_keyCodes, .ref qt_bytes, .int qt_size, .int qt_most, .int x1, .int x2, .int x3, .int x4, .long x5, .int x6, .int 0, .int qt_faultPlace])), (qt_keyCodes, eJ G 27 qt_keyCodes_c), (qt_bytes, eB G 940 qt_bytes_c), (qs, .inr (4, [.int qs_slides, .int qs_hearers, .int qs_nears, .int qs_lines, .int qs_pass, .int qs_spread, .int qs_lamp, .int qs_behind, .int qs_settingsTold, .ref qs_slideNames, .ref qs_pictures, .ref qs_heats, .ref qs_after, .ref qs_hearerNames, .ref qs_needs, .ref qs_likes, .ref qs_hates, .ref qs_near])), (qs_hearerNames, eJ G 8 qs_hearerNames_c)] H _ := hw
    have hwb := tkW_bd (show tkK b qt_size.toInt qt_most.toInt qt_from.toInt = 2 by omega)
    have hfs : r22.toInt = hF sg (tkW b qt_size.toInt qt_from.toInt) := by rw [hf25]; exact fC_h hr_2 hr_3 (by have := hr_2.1; omega) (by omega) hwb.2.1 hwb.2.2
    refine lv_goto (tgt := 24) C.1 C.2.1 dX5_takeHearer_20 (by decide) ?_
    refine lv_istore_n (lv' := [(2, .int r22), (0, .ref qs), (1, .ref qt)]) C.1 C.2.1 dX5_takeHearer_24 rfl hl (by decide) rfl (fun ls hl => ?_)
    refine lv_iload_n C.1 C.2.1 dX5_takeHearer_25 rfl (lv_at hl 0 rfl) ?_
    refine lv_iconst (v := (-1)) C.1 C.2.1 dX5_takeHearer_26 (by decide) ?_
    refine lv_icmp_ne (tgt := 48) C.1 C.2.1 dX5_takeHearer_27 (by decide) (fun c26 => ?_) (fun c26 => ?_)
    · skip
      have c26 : r22.toInt ≠ (-1) := i_eqF (X := r22.toInt) (Y := (-1)) rfl rfl c26
      refine lv_iload_n C.1 C.2.1 dX5_takeHearer_48 rfl (lv_at hl 0 rfl) ?_
      have hw := hw.sub (w' := [(qs, .inr (4, [.int qs_slides, .int qs_hearers, .int qs_nears, .int qs_lines, .int qs_pass, .int qs_spread, .int qs_lamp, .int qs_behind, .int qs_settingsTold, .ref qs_slideNames, .ref qs_pictures, .ref qs_heats, .ref qs_after, .ref qs_hearerNames, .ref qs_needs, .ref qs_likes, .ref qs_hates, .ref qs_near])), (qs_slideNames, eJ G 6 qs_slideNames_c), (qs_after, eI G 6 qs_after_c), (qs_hearerNames, eJ G 8 qs_hearerNames_c), (qs_likes, eI G 8 qs_likes_c), (qs_hates, eI G 8 qs_hates_c), (qs_near, eI G 8 qs_near_c), (qt, .inr (8, [.ref qt_keyCodes, .ref qt_bytes, .int qt_size, .int qt_most, .int x1, .int x2, .int x3, .int x4, .long x5, .int x6, .int 0, .int qt_faultPlace])), (qt_keyCodes, eJ G 27 qt_keyCodes_c), (qt_bytes, eB G 940 qt_bytes_c)]) [8, 0, 1, 9, 2, 3, 4, 5, 6, 7] rfl rfl
      exact x_retiQ hQ B hw (Or.inr ⟨x1, x2, x3, x4, x5, x6, r22, rfl, rfl, (by omega), (by omega), (by omega), (by omega), (by omega), (by first | omega), (by first | omega), (by first | omega), (by first | omega)⟩) (Nat.le_of_ble_eq_true rfl) (Nat.le_of_ble_eq_true rfl) dX5_takeHearer_49
    · skip
      have c26 : r22.toInt = (-1) := i_eqT (X := r22.toInt) (Y := (-1)) rfl rfl c26
      refine lv_aload_n C.1 C.2.1 dX5_takeHearer_30 rfl (lv_at hl 2 rfl) ?_
      refine lv_aload_n C.1 C.2.1 dX5_takeHearer_31 rfl (lv_at hl 2 rfl) ?_
      refine x_get C hw iwX9 8 rfl 5 rfl 5 (by decide) kw96 rfl dX5_takeHearer_32 ?_
      refine lv_iconst (v := 2) C.1 C.2.1 dX5_takeHearer_35 (by decide) ?_
      refine lv_icmp_ne (tgt := 43) C.1 C.2.1 dX5_takeHearer_36 (by decide) (fun c27 => ?_) (fun c27 => ?_)
      · skip
        have c27 : x2.toInt ≠ 2 := i_eqF (X := x2.toInt) (Y := 2) rfl rfl c27
        exfalso; omega
      · skip
        have c27 : x2.toInt = 2 := i_eqT (X := x2.toInt) (Y := 2) rfl rfl c27
        refine lv_iconst (v := 3) C.1 C.2.1 dX5_takeHearer_39 (by decide) ?_
        refine lv_goto (tgt := 44) C.1 C.2.1 dX5_takeHearer_40 (by decide) ?_
        refine x_calliV (As := [.int 3]) (rest := []) (wr := [(qs_slideNames, eJ G 6 qs_slideNames_c), (qs_after, eI G 6 qs_after_c), (qs_likes, eI G 8 qs_likes_c), (qs_hates, eI G 8 qs_hates_c), (qs_near, eI G 8 qs_near_c), (qt_keyCodes, eJ G 27 qt_keyCodes_c), (qt_bytes, eB G 940 qt_bytes_c), (qs, .inr (4, [.int qs_slides, .int qs_hearers, .int qs_nears, .int qs_lines, .int qs_pass, .int qs_spread, .int qs_lamp, .int qs_behind, .int qs_settingsTold, .ref qs_slideNames, .ref qs_pictures, .ref qs_heats, .ref qs_after, .ref qs_hearerNames, .ref qs_needs, .ref qs_likes, .ref qs_hates, .ref qs_near])), (qs_hearerNames, eJ G 8 qs_hearerNames_c)]) C hw (e_X9_fail qt 3 qt_keyCodes qt_bytes qt_size qt_most x1 x2 x3 x4 x5 x6 qt_faultPlace) mwX9_fail kw546 [5] [0, 1, 2, 3, 4, 6, 7, 8, 9] rfl rfl rfl rfl (by decide) 0 rfl rfl rfl rfl hl.1 rfl (Nat.le_of_ble_eq_true rfl) ⟨(Nat.le_of_ble_eq_true rfl), (Nat.le_of_ble_eq_true rfl)⟩ ⟨(Nat.le_of_ble_eq_true rfl), (Nat.le_of_ble_eq_true rfl)⟩ dX5_takeHearer_44 (fun r28 u9 H locs hp9 hw => ?_)
        obtain ⟨rfl, rfl⟩ := hp9
        have hw : Wd G s A [(qs_slideNames, eJ G 6 qs_slideNames_c), (qs_after, eI G 6 qs_after_c), (qs_likes, eI G 8 qs_likes_c), (qs_hates, eI G 8 qs_hates_c), (qs_near, eI G 8 qs_near_c), (qt_keyCodes, eJ G 27 qt_keyCodes_c), (qt_bytes, eB G 940 qt_bytes_c), (qs, .inr (4, [.int qs_slides, .int qs_hearers, .int qs_nears, .int qs_lines, .int qs_pass, .int qs_spread, .int qs_lamp, .int qs_behind, .int qs_settingsTold, .ref qs_slideNames, .ref qs_pictures, .ref qs_heats, .ref qs_after, .ref qs_hearerNames, .ref qs_needs, .ref qs_likes, .ref qs_hates, .ref qs_near])), (qs_hearerNames, eJ G 8 qs_hearerNames_c), (qt, .inr (8, [.ref qt_keyCodes, .ref qt_bytes, .int qt_size, .int qt_most, .int x1, .int x2, .int x3, .int x4, .long x5, .int x6, .int 3, .int x3]))] H _ := hw
        refine lv_pop C.1 C.2.1 dX5_takeHearer_47 rfl ?_
        refine lv_iload_n C.1 C.2.1 dX5_takeHearer_48 rfl (lv_at hl 0 rfl) ?_
        have hw := hw.sub (w' := [(qs, .inr (4, [.int qs_slides, .int qs_hearers, .int qs_nears, .int qs_lines, .int qs_pass, .int qs_spread, .int qs_lamp, .int qs_behind, .int qs_settingsTold, .ref qs_slideNames, .ref qs_pictures, .ref qs_heats, .ref qs_after, .ref qs_hearerNames, .ref qs_needs, .ref qs_likes, .ref qs_hates, .ref qs_near])), (qs_slideNames, eJ G 6 qs_slideNames_c), (qs_after, eI G 6 qs_after_c), (qs_hearerNames, eJ G 8 qs_hearerNames_c), (qs_likes, eI G 8 qs_likes_c), (qs_hates, eI G 8 qs_hates_c), (qs_near, eI G 8 qs_near_c), (qt, .inr (8, [.ref qt_keyCodes, .ref qt_bytes, .int qt_size, .int qt_most, .int x1, .int x2, .int x3, .int x4, .long x5, .int x6, .int 3, .int x3])), (qt_keyCodes, eJ G 27 qt_keyCodes_c), (qt_bytes, eB G 940 qt_bytes_c)]) [7, 0, 1, 8, 2, 3, 4, 9, 5, 6] rfl rfl
        exact x_retiQ hQ B hw (Or.inl ⟨x1, x2, x3, x4, x5, x6, 3, x3, r22, rfl, rfl, (by omega), (by omega), (by omega), (by omega), (by decide), (by omega), (by omega), (by have e0 : (3 : Int32).toInt = 3 := rfl; first | omega), (by have e0 : (3 : Int32).toInt = 3 := rfl; first | omega), (by have e0 : (3 : Int32).toInt = 3 := rfl; first | omega)⟩) (Nat.le_of_ble_eq_true rfl) (Nat.le_of_ble_eq_true rfl) dX5_takeHearer_49
