-- needs: 08 6 7 12 14 16 17 18 20
theorem dX11_rowOf_0 : decode cX11_rowOf 0 = .ok (.iconst 0, 1) := by decide +kernel
theorem dX11_rowOf_1 : decode cX11_rowOf 1 = .ok (.istore_n 2, 1) := by decide +kernel
theorem dX11_rowOf_2 : decode cX11_rowOf 2 = .ok (.iconst 0, 1) := by decide +kernel
theorem dX11_rowOf_3 : decode cX11_rowOf 3 = .ok (.istore_n 3, 1) := by decide +kernel
theorem dX11_rowOf_4 : decode cX11_rowOf 4 = .ok (.iload_n 3, 1) := by decide +kernel
theorem dX11_rowOf_5 : decode cX11_rowOf 5 = .ok (.iconst 4, 1) := by decide +kernel
theorem dX11_rowOf_6 : decode cX11_rowOf 6 = .ok (.if_icmp .ge 28, 3) := by decide +kernel
theorem dX11_rowOf_9 : decode cX11_rowOf 9 = .ok (.iload_n 0, 1) := by decide +kernel
theorem dX11_rowOf_10 : decode cX11_rowOf 10 = .ok (.iconst 4, 1) := by decide +kernel
theorem dX11_rowOf_11 : decode cX11_rowOf 11 = .ok (.iload_n 1, 1) := by decide +kernel
theorem dX11_rowOf_12 : decode cX11_rowOf 12 = .ok (.imul, 1) := by decide +kernel
theorem dX11_rowOf_13 : decode cX11_rowOf 13 = .ok (.iload_n 3, 1) := by decide +kernel
theorem dX11_rowOf_14 : decode cX11_rowOf 14 = .ok (.iadd, 1) := by decide +kernel
theorem dX11_rowOf_15 : decode cX11_rowOf 15 = .ok (.invokestatic 195, 3) := by decide +kernel
theorem dX11_rowOf_18 : decode cX11_rowOf 18 = .ok (.ifCond .eq 10, 3) := by decide +kernel
theorem dX11_rowOf_21 : decode cX11_rowOf 21 = .ok (.iload_n 2, 1) := by decide +kernel
theorem dX11_rowOf_22 : decode cX11_rowOf 22 = .ok (.bipush 8, 2) := by decide +kernel
theorem dX11_rowOf_24 : decode cX11_rowOf 24 = .ok (.iload_n 3, 1) := by decide +kernel
theorem dX11_rowOf_25 : decode cX11_rowOf 25 = .ok (.ishr, 1) := by decide +kernel
theorem dX11_rowOf_26 : decode cX11_rowOf 26 = .ok (.ior, 1) := by decide +kernel
theorem dX11_rowOf_27 : decode cX11_rowOf 27 = .ok (.istore_n 2, 1) := by decide +kernel
theorem dX11_rowOf_28 : decode cX11_rowOf 28 = .ok (.iinc 3 1, 3) := by decide +kernel
theorem dX11_rowOf_31 : decode cX11_rowOf 31 = .ok (.goto (-27), 3) := by decide +kernel
theorem dX11_rowOf_34 : decode cX11_rowOf 34 = .ok (.iload_n 2, 1) := by decide +kernel
theorem dX11_rowOf_35 : decode cX11_rowOf 35 = .ok (.ireturn, 1) := by decide +kernel
set_option maxHeartbeats 4000000 in
set_option maxRecDepth 100000 in
theorem s_X11_rowOf {l : Launch} {G : Gc} (a1 : Int32) (a2 : Int32)  : Ci l yX11_rowOf cX11_rowOf 4 (some .int) 1 0 0 G [.int a1, .int a2] [] (fun (r9 : Int32) (u9 : va_W) => ∃ (r_x : Int32), r9 = r_x ∧ u9 = []) := by
  refine Ci.ofQ (by decide) (Nat.le_of_ble_eq_true rfl) ?_
  intro p e s m below meth c ls A args Q hQ B hw hl
  have C : CallFix p m c cX11_rowOf 4 s args gw "LanternStateModel" := B.1
  have hl : lv_has ls 4 [(0, .int a1), (1, .int a2)] := hl
  refine lv_iconst (v := 0) C.1 C.2.1 dX11_rowOf_0 (by decide) ?_
  refine lv_istore_n (lv' := [(2, .int 0), (0, .int a1), (1, .int a2)]) C.1 C.2.1 dX11_rowOf_1 rfl hl (by decide) rfl (fun ls hl => ?_)
  refine lv_iconst (v := 0) C.1 C.2.1 dX11_rowOf_2 (by decide) ?_
  refine lv_istore_n (lv' := [(3, .int 0), (2, .int 0), (0, .int a1), (1, .int a2)]) C.1 C.2.1 dX11_rowOf_3 rfl hl (by decide) rfl (fun ls hl => ?_)
  have loopJ49 : ∀ (n9 : Nat) (j47 : Int32) (j48 : Int32), (2147483647 - j47.toInt).toNat < n9 → (0 ≤ j47.toInt ∧ j47.toInt ≤ 4) → ∀ (H : Heap) (locs : List Loc) (ls : Array Slot), Wd G s A [] H locs → lv_has ls 4 [(3, .int j47), (2, .int j48), (0, .int a1), (1, .int a2)] → W p l e (rmD 1 0 0) s m args below meth c H locs 0 0 Q (F0 m 4 ls []) := by
    intro n9
    induction n9 with
    | zero => intro j47 j48 h9; exact absurd h9 (Nat.not_lt_zero _)
    | succ n9 ihJ49 =>
      intro j47 j48 h9J49 hJ49_0 H locs ls hw hl
      have hbj47 := i_bd j47
      refine lv_iload_n C.1 C.2.1 dX11_rowOf_4 rfl (lv_at hl 0 rfl) ?_
      refine lv_iconst (v := 4) C.1 C.2.1 dX11_rowOf_5 (by decide) ?_
      refine lv_icmp_ge (tgt := 34) C.1 C.2.1 dX11_rowOf_6 (by decide) (fun c63 => ?_) (fun c63 => ?_)
      · skip
        have c63 : 4 ≤ j47.toInt := i_leT (X := 4) (Y := j47.toInt) rfl rfl c63
        refine lv_iload_n C.1 C.2.1 dX11_rowOf_34 rfl (lv_at hl 1 rfl) ?_
        exact x_retiQ hQ B hw ⟨j48, rfl, rfl⟩ (Nat.le_of_ble_eq_true rfl) (Nat.le_of_ble_eq_true rfl) dX11_rowOf_35
      · skip
        have c63 : j47.toInt < 4 := i_leF (X := 4) (Y := j47.toInt) rfl rfl c63
        refine lv_iload_n C.1 C.2.1 dX11_rowOf_9 rfl (lv_at hl 2 rfl) ?_
        refine lv_iconst (v := 4) C.1 C.2.1 dX11_rowOf_10 (by decide) ?_
        refine lv_iload_n C.1 C.2.1 dX11_rowOf_11 rfl (lv_at hl 3 rfl) ?_
        refine lv_imul C.1 C.2.1 dX11_rowOf_12 (x_gen (fun v64 => ?_))
        refine lv_iload_n C.1 C.2.1 dX11_rowOf_13 rfl (lv_at hl 0 rfl) ?_
        refine lv_iadd C.1 C.2.1 dX11_rowOf_14 (x_gen (fun v65 => ?_))
        refine x_calliS (As := [.int a1, .int v65]) (rest := []) (wr := []) C hw (s_X11_has a1 v65) mwX11_has kw1426 [] [] rfl rfl rfl rfl (by decide) rfl hl.1 rfl (Nat.le_of_ble_eq_true rfl) ⟨(Nat.le_of_ble_eq_true rfl), (Nat.le_of_ble_eq_true rfl)⟩ ⟨(Nat.le_of_ble_eq_true rfl), (Nat.le_of_ble_eq_true rfl)⟩ dX11_rowOf_15 (fun r66 u9 H locs hp9 hw => ?_)
        have J71 : ∀ (j70 : Int32), ∀ (H : Heap) (locs : List Loc) (ls : Array Slot), Wd G s A [] H locs → lv_has ls 4 [(3, .int j47), (2, .int j70), (0, .int a1), (1, .int a2)] → W p l e (rmD 1 0 0) s m args below meth c H locs 0 0 Q (F0 m 28 ls []) := by
          intro j70  H locs ls hw hl
          obtain ⟨v73, ev73⟩ : ∃ z : Int32, j47 + 1 = z := ⟨_, rfl⟩
          have hv73 : v73.toInt = j47.toInt + 1 := by rw [← ev73]; exact i_add rfl rfl (by omega) (by omega)
          refine lv_iinc (v := v73) (lv' := [(3, .int v73), (2, .int j70), (0, .int a1), (1, .int a2)]) C.1 C.2.1 dX11_rowOf_28 hl (k := 0) rfl ev73 (by decide) rfl (fun ls hl => ?_)
          refine lv_goto (tgt := 4) C.1 C.2.1 dX11_rowOf_31 (by decide) ?_
          exact ihJ49 v73 j70 (by omega) (by omega) _ _ _ hw (lv_sub hl [0, 1, 2, 3] rfl)
        rcases hp9 with ⟨rfl, rfl⟩ | ⟨rfl, rfl, hf67⟩
        · skip
          have hw : Wd G s A [] H _ := hw
          refine lv_if_eq (tgt := 28) C.1 C.2.1 dX11_rowOf_18 (by decide) (fun _ => ?_) (fun h9 => absurd (by decide) h9)
          exact J71 j48   _ _ _ hw (lv_sub hl [0, 1, 2, 3] rfl)
        · skip
          have hw : Wd G s A [] H _ := hw
          refine lv_if_eq (tgt := 28) C.1 C.2.1 dX11_rowOf_18 (by decide) (fun h9 => absurd h9 (by decide)) (fun _ => ?_)
          refine lv_iload_n C.1 C.2.1 dX11_rowOf_21 rfl (lv_at hl 1 rfl) ?_
          refine lv_bipush (v := 8) C.1 C.2.1 dX11_rowOf_22 (by decide) ?_
          refine lv_iload_n C.1 C.2.1 dX11_rowOf_24 rfl (lv_at hl 0 rfl) ?_
          refine lv_ishr C.1 C.2.1 dX11_rowOf_25 (x_gen (fun v74 => ?_))
          refine lv_ior C.1 C.2.1 dX11_rowOf_26 (x_gen (fun v75 => ?_))
          refine lv_istore_n (lv' := [(2, .int v75), (3, .int j47), (0, .int a1), (1, .int a2)]) C.1 C.2.1 dX11_rowOf_27 rfl hl (by decide) rfl (fun ls hl => ?_)
          exact J71 v75   _ _ _ hw (lv_sub hl [1, 0, 2, 3] rfl)
  exact loopJ49 _ 0 0 (Nat.lt_succ_self _) (by decide) _ _ _ hw (lv_sub hl [0, 1, 2, 3] rfl)
theorem dX11_turned_0 : decode cX11_turned 0 = .ok (.iconst 0, 1) := by decide +kernel
theorem dX11_turned_1 : decode cX11_turned 1 = .ok (.istore_n 2, 1) := by decide +kernel
theorem dX11_turned_2 : decode cX11_turned 2 = .ok (.iconst 0, 1) := by decide +kernel
theorem dX11_turned_3 : decode cX11_turned 3 = .ok (.istore_n 3, 1) := by decide +kernel
theorem dX11_turned_4 : decode cX11_turned 4 = .ok (.iload_n 3, 1) := by decide +kernel
theorem dX11_turned_5 : decode cX11_turned 5 = .ok (.iconst 4, 1) := by decide +kernel
theorem dX11_turned_6 : decode cX11_turned 6 = .ok (.if_icmp .ge 89, 3) := by decide +kernel
theorem dX11_turned_9 : decode cX11_turned 9 = .ok (.iconst 0, 1) := by decide +kernel
theorem dX11_turned_10 : decode cX11_turned 10 = .ok (.istore 4, 2) := by decide +kernel
theorem dX11_turned_12 : decode cX11_turned 12 = .ok (.iload 4, 2) := by decide +kernel
theorem dX11_turned_14 : decode cX11_turned 14 = .ok (.iconst 4, 1) := by decide +kernel
theorem dX11_turned_15 : decode cX11_turned 15 = .ok (.if_icmp .ge 74, 3) := by decide +kernel
theorem dX11_turned_18 : decode cX11_turned 18 = .ok (.iload_n 1, 1) := by decide +kernel
theorem dX11_turned_19 : decode cX11_turned 19 = .ok (.iconst 1, 1) := by decide +kernel
theorem dX11_turned_20 : decode cX11_turned 20 = .ok (.if_icmp .eq 8, 3) := by decide +kernel
theorem dX11_turned_23 : decode cX11_turned 23 = .ok (.iload_n 1, 1) := by decide +kernel
theorem dX11_turned_24 : decode cX11_turned 24 = .ok (.iconst 2, 1) := by decide +kernel
theorem dX11_turned_25 : decode cX11_turned 25 = .ok (.if_icmp .ne 10, 3) := by decide +kernel
theorem dX11_turned_35 : decode cX11_turned 35 = .ok (.iload 4, 2) := by decide +kernel
theorem dX11_turned_28 : decode cX11_turned 28 = .ok (.iconst 3, 1) := by decide +kernel
theorem dX11_turned_29 : decode cX11_turned 29 = .ok (.iload 4, 2) := by decide +kernel
theorem dX11_turned_31 : decode cX11_turned 31 = .ok (.isub, 1) := by decide +kernel
theorem dX11_turned_32 : decode cX11_turned 32 = .ok (.goto 5, 3) := by decide +kernel
theorem dX11_turned_37 : decode cX11_turned 37 = .ok (.istore 5, 2) := by decide +kernel
theorem dX11_turned_39 : decode cX11_turned 39 = .ok (.iload_n 1, 1) := by decide +kernel
theorem dX11_turned_40 : decode cX11_turned 40 = .ok (.iconst 1, 1) := by decide +kernel
theorem dX11_turned_41 : decode cX11_turned 41 = .ok (.if_icmp .eq 8, 3) := by decide +kernel
theorem dX11_turned_44 : decode cX11_turned 44 = .ok (.iload_n 1, 1) := by decide +kernel
theorem dX11_turned_45 : decode cX11_turned 45 = .ok (.iconst 3, 1) := by decide +kernel
theorem dX11_turned_46 : decode cX11_turned 46 = .ok (.if_icmp .ne 9, 3) := by decide +kernel
theorem dX11_turned_55 : decode cX11_turned 55 = .ok (.iload_n 3, 1) := by decide +kernel
theorem dX11_turned_49 : decode cX11_turned 49 = .ok (.iconst 3, 1) := by decide +kernel
theorem dX11_turned_50 : decode cX11_turned 50 = .ok (.iload_n 3, 1) := by decide +kernel
theorem dX11_turned_51 : decode cX11_turned 51 = .ok (.isub, 1) := by decide +kernel
theorem dX11_turned_52 : decode cX11_turned 52 = .ok (.goto 4, 3) := by decide +kernel
theorem dX11_turned_56 : decode cX11_turned 56 = .ok (.istore 6, 2) := by decide +kernel
theorem dX11_turned_58 : decode cX11_turned 58 = .ok (.iload_n 0, 1) := by decide +kernel
theorem dX11_turned_59 : decode cX11_turned 59 = .ok (.iconst 4, 1) := by decide +kernel
theorem dX11_turned_60 : decode cX11_turned 60 = .ok (.iload 6, 2) := by decide +kernel
theorem dX11_turned_62 : decode cX11_turned 62 = .ok (.imul, 1) := by decide +kernel
theorem dX11_turned_63 : decode cX11_turned 63 = .ok (.iload 5, 2) := by decide +kernel
theorem dX11_turned_65 : decode cX11_turned 65 = .ok (.iadd, 1) := by decide +kernel
theorem dX11_turned_66 : decode cX11_turned 66 = .ok (.invokestatic 195, 3) := by decide +kernel
theorem dX11_turned_69 : decode cX11_turned 69 = .ok (.ifCond .eq 14, 3) := by decide +kernel
theorem dX11_turned_72 : decode cX11_turned 72 = .ok (.iload_n 2, 1) := by decide +kernel
theorem dX11_turned_73 : decode cX11_turned 73 = .ok (.iconst 1, 1) := by decide +kernel
theorem dX11_turned_74 : decode cX11_turned 74 = .ok (.iconst 4, 1) := by decide +kernel
theorem dX11_turned_75 : decode cX11_turned 75 = .ok (.iload_n 3, 1) := by decide +kernel
theorem dX11_turned_76 : decode cX11_turned 76 = .ok (.imul, 1) := by decide +kernel
theorem dX11_turned_77 : decode cX11_turned 77 = .ok (.iload 4, 2) := by decide +kernel
theorem dX11_turned_79 : decode cX11_turned 79 = .ok (.iadd, 1) := by decide +kernel
theorem dX11_turned_80 : decode cX11_turned 80 = .ok (.ishl, 1) := by decide +kernel
theorem dX11_turned_81 : decode cX11_turned 81 = .ok (.ior, 1) := by decide +kernel
theorem dX11_turned_82 : decode cX11_turned 82 = .ok (.istore_n 2, 1) := by decide +kernel
theorem dX11_turned_83 : decode cX11_turned 83 = .ok (.iinc 4 1, 3) := by decide +kernel
theorem dX11_turned_86 : decode cX11_turned 86 = .ok (.goto (-74), 3) := by decide +kernel
theorem dX11_turned_89 : decode cX11_turned 89 = .ok (.iinc 3 1, 3) := by decide +kernel
theorem dX11_turned_92 : decode cX11_turned 92 = .ok (.goto (-88), 3) := by decide +kernel
theorem dX11_turned_95 : decode cX11_turned 95 = .ok (.iload_n 2, 1) := by decide +kernel
theorem dX11_turned_96 : decode cX11_turned 96 = .ok (.ireturn, 1) := by decide +kernel
set_option maxHeartbeats 4000000 in
set_option maxRecDepth 100000 in
theorem s_X11_turned {l : Launch} {G : Gc} (a1 : Int32) (a2 : Int32)  : Ci l yX11_turned cX11_turned 7 (some .int) 1 0 0 G [.int a1, .int a2] [] (fun (r9 : Int32) (u9 : va_W) => ∃ (r_x : Int32), r9 = r_x ∧ u9 = []) := by
  refine Ci.ofQ (by decide) (Nat.le_of_ble_eq_true rfl) ?_
  intro p e s m below meth c ls A args Q hQ B hw hl
  have C : CallFix p m c cX11_turned 7 s args gw "LanternStateModel" := B.1
  have hl : lv_has ls 7 [(0, .int a1), (1, .int a2)] := hl
  refine lv_iconst (v := 0) C.1 C.2.1 dX11_turned_0 (by decide) ?_
  refine lv_istore_n (lv' := [(2, .int 0), (0, .int a1), (1, .int a2)]) C.1 C.2.1 dX11_turned_1 rfl hl (by decide) rfl (fun ls hl => ?_)
  refine lv_iconst (v := 0) C.1 C.2.1 dX11_turned_2 (by decide) ?_
  refine lv_istore_n (lv' := [(3, .int 0), (2, .int 0), (0, .int a1), (1, .int a2)]) C.1 C.2.1 dX11_turned_3 rfl hl (by decide) rfl (fun ls hl => ?_)
  have loopJ632 : ∀ (n9 : Nat) (j630 : Int32) (j631 : Int32), (2147483647 - j630.toInt).toNat < n9 → (0 ≤ j630.toInt ∧ j630.toInt ≤ 4) → ∀ (H : Heap) (locs : List Loc) (ls : Array Slot), Wd G s A [] H locs → lv_has ls 7 [(3, .int j630), (2, .int j631), (0, .int a1), (1, .int a2)] → W p l e (rmD 1 0 0) s m args below meth c H locs 0 0 Q (F0 m 4 ls []) := by
    intro n9
    induction n9 with
    | zero => intro j630 j631 h9; exact absurd h9 (Nat.not_lt_zero _)
    | succ n9 ihJ632 =>
      intro j630 j631 h9J632 hJ632_0 H locs ls hw hl
      have hbj630 := i_bd j630
      refine lv_iload_n C.1 C.2.1 dX11_turned_4 rfl (lv_at hl 0 rfl) ?_
      refine lv_iconst (v := 4) C.1 C.2.1 dX11_turned_5 (by decide) ?_
      refine lv_icmp_ge (tgt := 95) C.1 C.2.1 dX11_turned_6 (by decide) (fun c795 => ?_) (fun c795 => ?_)
      · skip
        have c795 : 4 ≤ j630.toInt := i_leT (X := 4) (Y := j630.toInt) rfl rfl c795
        refine lv_iload_n C.1 C.2.1 dX11_turned_95 rfl (lv_at hl 1 rfl) ?_
        exact x_retiQ hQ B hw ⟨j631, rfl, rfl⟩ (Nat.le_of_ble_eq_true rfl) (Nat.le_of_ble_eq_true rfl) dX11_turned_96
      · skip
        have c795 : j630.toInt < 4 := i_leF (X := 4) (Y := j630.toInt) rfl rfl c795
        refine lv_iconst (v := 0) C.1 C.2.1 dX11_turned_9 (by decide) ?_
        refine lv_istore (lv' := [(4, .int 0), (3, .int j630), (2, .int j631), (0, .int a1), (1, .int a2)]) C.1 C.2.1 dX11_turned_10 hl (by decide) rfl (fun ls hl => ?_)
        have loopJ901 : ∀ (n9 : Nat) (j899 : Int32) (j900 : Int32), (2147483647 - j899.toInt).toNat < n9 → (0 ≤ j899.toInt ∧ j899.toInt ≤ 4) → ∀ (H : Heap) (locs : List Loc) (ls : Array Slot), Wd G s A [] H locs → lv_has ls 7 [(4, .int j899), (3, .int j630), (2, .int j900), (0, .int a1), (1, .int a2)] → W p l e (rmD 1 0 0) s m args below meth c H locs 0 0 Q (F0 m 12 ls []) := by
          intro n9
          induction n9 with
          | zero => intro j899 j900 h9; exact absurd h9 (Nat.not_lt_zero _)
          | succ n9 ihJ901 =>
            intro j899 j900 h9J901 hJ901_0 H locs ls hw hl
            have hbj899 := i_bd j899
            refine lv_iload C.1 C.2.1 dX11_turned_12 (lv_at hl 0 rfl) ?_
            refine lv_iconst (v := 4) C.1 C.2.1 dX11_turned_14 (by decide) ?_
            refine lv_icmp_ge (tgt := 89) C.1 C.2.1 dX11_turned_15 (by decide) (fun c929 => ?_) (fun c929 => ?_)
            · skip
              have c929 : 4 ≤ j899.toInt := i_leT (X := 4) (Y := j899.toInt) rfl rfl c929
              obtain ⟨v930, ev930⟩ : ∃ z : Int32, j630 + 1 = z := ⟨_, rfl⟩
              have hv930 : v930.toInt = j630.toInt + 1 := by rw [← ev930]; exact i_add rfl rfl (by omega) (by omega)
              refine lv_iinc (v := v930) (lv' := [(3, .int v930), (4, .int j899), (2, .int j900), (0, .int a1), (1, .int a2)]) C.1 C.2.1 dX11_turned_89 hl (k := 1) rfl ev930 (by decide) rfl (fun ls hl => ?_)
              refine lv_goto (tgt := 4) C.1 C.2.1 dX11_turned_92 (by decide) ?_
              exact ihJ632 v930 j900 (by omega) (by omega) _ _ _ hw (lv_sub hl [0, 2, 3, 4] rfl)
            · skip
              have c929 : j899.toInt < 4 := i_leF (X := 4) (Y := j899.toInt) rfl rfl c929
              refine lv_iload_n C.1 C.2.1 dX11_turned_18 rfl (lv_at hl 4 rfl) ?_
              refine lv_iconst (v := 1) C.1 C.2.1 dX11_turned_19 (by decide) ?_
              have J936 : ∀ (j935 : Int32), (0 ≤ j935.toInt ∧ j935.toInt ≤ 3) → ∀ (H : Heap) (locs : List Loc) (ls : Array Slot), Wd G s A [] H locs → lv_has ls 7 [(4, .int j899), (3, .int j630), (2, .int j900), (0, .int a1), (1, .int a2)] → W p l e (rmD 1 0 0) s m args below meth c H locs 0 0 Q (F0 m 37 ls [.int j935]) := by
                intro j935 hJ936_0 H locs ls hw hl
                refine lv_istore (lv' := [(5, .int j935), (4, .int j899), (3, .int j630), (2, .int j900), (0, .int a1), (1, .int a2)]) C.1 C.2.1 dX11_turned_37 hl (by decide) rfl (fun ls hl => ?_)
                refine lv_iload_n C.1 C.2.1 dX11_turned_39 rfl (lv_at hl 5 rfl) ?_
                refine lv_iconst (v := 1) C.1 C.2.1 dX11_turned_40 (by decide) ?_
                have J959 : ∀ (j958 : Int32), (0 ≤ j958.toInt ∧ j958.toInt ≤ 3) → ∀ (H : Heap) (locs : List Loc) (ls : Array Slot), Wd G s A [] H locs → lv_has ls 7 [(5, .int j935), (4, .int j899), (3, .int j630), (2, .int j900), (0, .int a1), (1, .int a2)] → W p l e (rmD 1 0 0) s m args below meth c H locs 0 0 Q (F0 m 56 ls [.int j958]) := by
                  intro j958 hJ959_0 H locs ls hw hl
                  refine lv_istore (lv' := [(6, .int j958), (5, .int j935), (4, .int j899), (3, .int j630), (2, .int j900), (0, .int a1), (1, .int a2)]) C.1 C.2.1 dX11_turned_56 hl (by decide) rfl (fun ls hl => ?_)
                  refine lv_iload_n C.1 C.2.1 dX11_turned_58 rfl (lv_at hl 5 rfl) ?_
                  refine lv_iconst (v := 4) C.1 C.2.1 dX11_turned_59 (by decide) ?_
                  refine lv_iload C.1 C.2.1 dX11_turned_60 (lv_at hl 0 rfl) ?_
                  refine lv_imul C.1 C.2.1 dX11_turned_62 (x_genP (fun z : Int32 => z.toInt = 4 * j958.toInt) (i_mul (X := 4) (Y := j958.toInt) rfl rfl (by omega) (by omega)) (fun v971 hv971 => ?_))
                  refine lv_iload C.1 C.2.1 dX11_turned_63 (lv_at hl 1 rfl) ?_
                  refine lv_iadd C.1 C.2.1 dX11_turned_65 (x_genP (fun z : Int32 => z.toInt = v971.toInt + j935.toInt) (i_add (X := v971.toInt) (Y := j935.toInt) rfl rfl (by omega) (by omega)) (fun v972 hv972 => ?_))
                  refine x_calliS (As := [.int a1, .int v972]) (rest := []) (wr := []) C hw (s_X11_has a1 v972) mwX11_has kw1426 [] [] rfl rfl rfl rfl (by decide) rfl hl.1 rfl (Nat.le_of_ble_eq_true rfl) ⟨(Nat.le_of_ble_eq_true rfl), (Nat.le_of_ble_eq_true rfl)⟩ ⟨(Nat.le_of_ble_eq_true rfl), (Nat.le_of_ble_eq_true rfl)⟩ dX11_turned_66 (fun r973 u9 H locs hp9 hw => ?_)
                  have J980 : ∀ (j979 : Int32), ∀ (H : Heap) (locs : List Loc) (ls : Array Slot), Wd G s A [] H locs → lv_has ls 7 [(4, .int j899), (3, .int j630), (2, .int j979), (0, .int a1), (1, .int a2)] → W p l e (rmD 1 0 0) s m args below meth c H locs 0 0 Q (F0 m 83 ls []) := by
                    intro j979  H locs ls hw hl
                    obtain ⟨v982, ev982⟩ : ∃ z : Int32, j899 + 1 = z := ⟨_, rfl⟩
                    have hv982 : v982.toInt = j899.toInt + 1 := by rw [← ev982]; exact i_add rfl rfl (by omega) (by omega)
                    refine lv_iinc (v := v982) (lv' := [(4, .int v982), (3, .int j630), (2, .int j979), (0, .int a1), (1, .int a2)]) C.1 C.2.1 dX11_turned_83 hl (k := 0) rfl ev982 (by decide) rfl (fun ls hl => ?_)
                    refine lv_goto (tgt := 12) C.1 C.2.1 dX11_turned_86 (by decide) ?_
                    exact ihJ901 v982 j979 (by omega) (by omega) _ _ _ hw (lv_sub hl [0, 1, 2, 3, 4] rfl)
                  rcases hp9 with ⟨rfl, rfl⟩ | ⟨rfl, rfl, hf974⟩
                  · skip
                    have hw : Wd G s A [] H _ := hw
                    refine lv_if_eq (tgt := 83) C.1 C.2.1 dX11_turned_69 (by decide) (fun _ => ?_) (fun h9 => absurd (by decide) h9)
                    exact J980 j900   _ _ _ hw (lv_sub hl [2, 3, 4, 5, 6] rfl)
                  · skip
                    have hw : Wd G s A [] H _ := hw
                    refine lv_if_eq (tgt := 83) C.1 C.2.1 dX11_turned_69 (by decide) (fun h9 => absurd h9 (by decide)) (fun _ => ?_)
                    refine lv_iload_n C.1 C.2.1 dX11_turned_72 rfl (lv_at hl 4 rfl) ?_
                    refine lv_iconst (v := 1) C.1 C.2.1 dX11_turned_73 (by decide) ?_
                    refine lv_iconst (v := 4) C.1 C.2.1 dX11_turned_74 (by decide) ?_
                    refine lv_iload_n C.1 C.2.1 dX11_turned_75 rfl (lv_at hl 3 rfl) ?_
                    refine lv_imul C.1 C.2.1 dX11_turned_76 (x_genP (fun z : Int32 => z.toInt = 4 * j630.toInt) (i_mul (X := 4) (Y := j630.toInt) rfl rfl (by omega) (by omega)) (fun v983 hv983 => ?_))
                    refine lv_iload C.1 C.2.1 dX11_turned_77 (lv_at hl 2 rfl) ?_
                    refine lv_iadd C.1 C.2.1 dX11_turned_79 (x_genP (fun z : Int32 => z.toInt = v983.toInt + j899.toInt) (i_add (X := v983.toInt) (Y := j899.toInt) rfl rfl (by omega) (by omega)) (fun v984 hv984 => ?_))
                    refine lv_ishl C.1 C.2.1 dX11_turned_80 (x_gen (fun v985 => ?_))
                    refine lv_ior C.1 C.2.1 dX11_turned_81 (x_gen (fun v986 => ?_))
                    refine lv_istore_n (lv' := [(2, .int v986), (6, .int j958), (5, .int j935), (4, .int j899), (3, .int j630), (0, .int a1), (1, .int a2)]) C.1 C.2.1 dX11_turned_82 rfl hl (by decide) rfl (fun ls hl => ?_)
                    exact J980 v986   _ _ _ hw (lv_sub hl [3, 4, 0, 5, 6] rfl)
                have J956 : ∀ (H : Heap) (locs : List Loc) (ls : Array Slot), Wd G s A [] H locs → lv_has ls 7 [(5, .int j935), (4, .int j899), (3, .int j630), (2, .int j900), (0, .int a1), (1, .int a2)] → W p l e (rmD 1 0 0) s m args below meth c H locs 0 0 Q (F0 m 49 ls []) := by
                  intro   H locs ls hw hl
                  refine lv_iconst (v := 3) C.1 C.2.1 dX11_turned_49 (by decide) ?_
                  refine lv_iload_n C.1 C.2.1 dX11_turned_50 rfl (lv_at hl 2 rfl) ?_
                  refine lv_isub C.1 C.2.1 dX11_turned_51 (x_genP (fun z : Int32 => z.toInt = 3 - j630.toInt) (i_sub (X := 3) (Y := j630.toInt) rfl rfl (by omega) (by omega)) (fun v987 hv987 => ?_))
                  refine lv_goto (tgt := 56) C.1 C.2.1 dX11_turned_52 (by decide) ?_
                  exact J959 v987  (by omega) _ _ _ hw (lv_sub hl [0, 1, 2, 3, 4, 5] rfl)
                refine lv_icmp_eq (tgt := 49) C.1 C.2.1 dX11_turned_41 (by decide) (fun c954 => ?_) (fun c954 => ?_)
                · skip
                  have c954 : a2.toInt = 1 := i_eqT (X := a2.toInt) (Y := 1) rfl rfl c954
                  have bc954_a2 := i_bd a2
                  exact J956    _ _ _ hw (lv_sub hl [0, 1, 2, 3, 4, 5] rfl)
                · skip
                  have c954 : a2.toInt ≠ 1 := i_eqF (X := a2.toInt) (Y := 1) rfl rfl c954
                  have bc954_a2 := i_bd a2
                  refine lv_iload_n C.1 C.2.1 dX11_turned_44 rfl (lv_at hl 5 rfl) ?_
                  refine lv_iconst (v := 3) C.1 C.2.1 dX11_turned_45 (by decide) ?_
                  refine lv_icmp_ne (tgt := 55) C.1 C.2.1 dX11_turned_46 (by decide) (fun c988 => ?_) (fun c988 => ?_)
                  · skip
                    have c988 : a2.toInt ≠ 3 := i_eqF (X := a2.toInt) (Y := 3) rfl rfl c988
                    have bc988_a2 := i_bd a2
                    refine lv_iload_n C.1 C.2.1 dX11_turned_55 rfl (lv_at hl 2 rfl) ?_
                    exact J959 j630  (by omega) _ _ _ hw (lv_sub hl [0, 1, 2, 3, 4, 5] rfl)
                  · skip
                    have c988 : a2.toInt = 3 := i_eqT (X := a2.toInt) (Y := 3) rfl rfl c988
                    have bc988_a2 := i_bd a2
                    exact J956    _ _ _ hw (lv_sub hl [0, 1, 2, 3, 4, 5] rfl)
              have J933 : ∀ (H : Heap) (locs : List Loc) (ls : Array Slot), Wd G s A [] H locs → lv_has ls 7 [(4, .int j899), (3, .int j630), (2, .int j900), (0, .int a1), (1, .int a2)] → W p l e (rmD 1 0 0) s m args below meth c H locs 0 0 Q (F0 m 28 ls []) := by
                intro   H locs ls hw hl
                refine lv_iconst (v := 3) C.1 C.2.1 dX11_turned_28 (by decide) ?_
                refine lv_iload C.1 C.2.1 dX11_turned_29 (lv_at hl 0 rfl) ?_
                refine lv_isub C.1 C.2.1 dX11_turned_31 (x_genP (fun z : Int32 => z.toInt = 3 - j899.toInt) (i_sub (X := 3) (Y := j899.toInt) rfl rfl (by omega) (by omega)) (fun v989 hv989 => ?_))
                refine lv_goto (tgt := 37) C.1 C.2.1 dX11_turned_32 (by decide) ?_
                exact J936 v989  (by omega) _ _ _ hw (lv_sub hl [0, 1, 2, 3, 4] rfl)
              refine lv_icmp_eq (tgt := 28) C.1 C.2.1 dX11_turned_20 (by decide) (fun c931 => ?_) (fun c931 => ?_)
              · skip
                have c931 : a2.toInt = 1 := i_eqT (X := a2.toInt) (Y := 1) rfl rfl c931
                have bc931_a2 := i_bd a2
                exact J933    _ _ _ hw (lv_sub hl [0, 1, 2, 3, 4] rfl)
              · skip
                have c931 : a2.toInt ≠ 1 := i_eqF (X := a2.toInt) (Y := 1) rfl rfl c931
                have bc931_a2 := i_bd a2
                refine lv_iload_n C.1 C.2.1 dX11_turned_23 rfl (lv_at hl 4 rfl) ?_
                refine lv_iconst (v := 2) C.1 C.2.1 dX11_turned_24 (by decide) ?_
                refine lv_icmp_ne (tgt := 35) C.1 C.2.1 dX11_turned_25 (by decide) (fun c990 => ?_) (fun c990 => ?_)
                · skip
                  have c990 : a2.toInt ≠ 2 := i_eqF (X := a2.toInt) (Y := 2) rfl rfl c990
                  have bc990_a2 := i_bd a2
                  refine lv_iload C.1 C.2.1 dX11_turned_35 (lv_at hl 0 rfl) ?_
                  exact J936 j899  (by omega) _ _ _ hw (lv_sub hl [0, 1, 2, 3, 4] rfl)
                · skip
                  have c990 : a2.toInt = 2 := i_eqT (X := a2.toInt) (Y := 2) rfl rfl c990
                  have bc990_a2 := i_bd a2
                  exact J933    _ _ _ hw (lv_sub hl [0, 1, 2, 3, 4] rfl)
        exact loopJ901 _ 0 j631 (Nat.lt_succ_self _) (by decide) _ _ _ hw (lv_sub hl [0, 1, 2, 3, 4] rfl)
  exact loopJ632 _ 0 0 (Nat.lt_succ_self _) (by decide) _ _ _ hw (lv_sub hl [0, 1, 2, 3] rfl)
theorem dX11_seenFrom_0 : decode cX11_seenFrom 0 = .ok (.iload_n 1, 1) := by decide +kernel
theorem dX11_seenFrom_1 : decode cX11_seenFrom 1 = .ok (.ifCond .ne 7, 3) := by decide +kernel
theorem dX11_seenFrom_8 : decode cX11_seenFrom 8 = .ok (.iload_n 0, 1) := by decide +kernel
theorem dX11_seenFrom_9 : decode cX11_seenFrom 9 = .ok (.iconst 2, 1) := by decide +kernel
theorem dX11_seenFrom_10 : decode cX11_seenFrom 10 = .ok (.invokestatic 234, 3) := by decide +kernel
theorem mwX11_turned : MwS yX11_turned cX11_turned 7 (some .int) 2 := ⟨⟨kw1493, kw15, by decide +kernel⟩, kw1492⟩
theorem dX11_seenFrom_13 : decode cX11_seenFrom 13 = .ok (.ireturn, 1) := by decide +kernel
theorem dX11_seenFrom_4 : decode cX11_seenFrom 4 = .ok (.iload_n 0, 1) := by decide +kernel
theorem dX11_seenFrom_5 : decode cX11_seenFrom 5 = .ok (.goto 8, 3) := by decide +kernel
set_option maxHeartbeats 4000000 in
set_option maxRecDepth 100000 in
theorem s_X11_seenFrom {l : Launch} {G : Gc} (a1 : Int32) (a2 : Int32)  : Ci l yX11_seenFrom cX11_seenFrom 2 (some .int) 2 0 0 G [.int a1, .int a2] [] (fun (r9 : Int32) (u9 : va_W) => ∃ (r_x : Int32), r9 = r_x ∧ u9 = []) := by
  refine Ci.ofQ (by decide) (Nat.le_of_ble_eq_true rfl) ?_
  intro p e s m below meth c ls A args Q hQ B hw hl
  have C : CallFix p m c cX11_seenFrom 2 s args gw "LanternStateModel" := B.1
  have hl : lv_has ls 2 [(0, .int a1), (1, .int a2)] := hl
  refine lv_iload_n C.1 C.2.1 dX11_seenFrom_0 rfl (lv_at hl 1 rfl) ?_
  refine lv_if_ne (tgt := 8) C.1 C.2.1 dX11_seenFrom_1 (by decide) (fun c1 => ?_) (fun c1 => ?_)
  · skip
    have c1 : a2.toInt ≠ 0 := i_eqF (X := a2.toInt) (Y := 0) rfl rfl c1
    have bc1_a2 := i_bd a2
    refine lv_iload_n C.1 C.2.1 dX11_seenFrom_8 rfl (lv_at hl 0 rfl) ?_
    refine lv_iconst (v := 2) C.1 C.2.1 dX11_seenFrom_9 (by decide) ?_
    refine x_calliS (As := [.int a1, .int 2]) (rest := []) (wr := []) C hw (s_X11_turned a1 2) mwX11_turned kw1491 [] [] rfl rfl rfl rfl (by decide) rfl hl.1 rfl (Nat.le_of_ble_eq_true rfl) ⟨(Nat.le_of_ble_eq_true rfl), (Nat.le_of_ble_eq_true rfl)⟩ ⟨(Nat.le_of_ble_eq_true rfl), (Nat.le_of_ble_eq_true rfl)⟩ dX11_seenFrom_10 (fun r2 u9 H locs hp9 hw => ?_)
    obtain ⟨x3, rfl, rfl⟩ := hp9
    have hw : Wd G s A [] H _ := hw
    exact x_retiQ hQ B hw ⟨r2, rfl, rfl⟩ (Nat.le_of_ble_eq_true rfl) (Nat.le_of_ble_eq_true rfl) dX11_seenFrom_13
  · skip
    have c1 : a2.toInt = 0 := i_eqT (X := a2.toInt) (Y := 0) rfl rfl c1
    have bc1_a2 := i_bd a2
    refine lv_iload_n C.1 C.2.1 dX11_seenFrom_4 rfl (lv_at hl 0 rfl) ?_
    refine lv_goto (tgt := 13) C.1 C.2.1 dX11_seenFrom_5 (by decide) ?_
    exact x_retiQ hQ B hw ⟨a1, rfl, rfl⟩ (Nat.le_of_ble_eq_true rfl) (Nat.le_of_ble_eq_true rfl) dX11_seenFrom_13
theorem dX11_looksLike_0 : decode cX11_looksLike 0 = .ok (.iconst 0, 1) := by decide +kernel
theorem dX11_looksLike_1 : decode cX11_looksLike 1 = .ok (.istore_n 2, 1) := by decide +kernel
theorem dX11_looksLike_2 : decode cX11_looksLike 2 = .ok (.iload_n 2, 1) := by decide +kernel
theorem dX11_looksLike_3 : decode cX11_looksLike 3 = .ok (.iconst 4, 1) := by decide +kernel
theorem dX11_looksLike_4 : decode cX11_looksLike 4 = .ok (.if_icmp .ge 20, 3) := by decide +kernel
theorem dX11_looksLike_7 : decode cX11_looksLike 7 = .ok (.iload_n 0, 1) := by decide +kernel
theorem dX11_looksLike_8 : decode cX11_looksLike 8 = .ok (.iload_n 2, 1) := by decide +kernel
theorem dX11_looksLike_9 : decode cX11_looksLike 9 = .ok (.invokestatic 234, 3) := by decide +kernel
theorem dX11_looksLike_12 : decode cX11_looksLike 12 = .ok (.iload_n 1, 1) := by decide +kernel
theorem dX11_looksLike_13 : decode cX11_looksLike 13 = .ok (.if_icmp .ne 5, 3) := by decide +kernel
theorem dX11_looksLike_18 : decode cX11_looksLike 18 = .ok (.iinc 2 1, 3) := by decide +kernel
theorem dX11_looksLike_21 : decode cX11_looksLike 21 = .ok (.goto (-19), 3) := by decide +kernel
theorem dX11_looksLike_16 : decode cX11_looksLike 16 = .ok (.iconst 1, 1) := by decide +kernel
theorem dX11_looksLike_17 : decode cX11_looksLike 17 = .ok (.ireturn, 1) := by decide +kernel
theorem dX11_looksLike_24 : decode cX11_looksLike 24 = .ok (.iconst 0, 1) := by decide +kernel
theorem dX11_looksLike_25 : decode cX11_looksLike 25 = .ok (.ireturn, 1) := by decide +kernel
set_option maxHeartbeats 4000000 in
set_option maxRecDepth 100000 in
theorem s_X11_looksLike {l : Launch} {G : Gc} (a1 : Int32) (a2 : Int32)  : Ci l yX11_looksLike cX11_looksLike 3 (some .boolean) 2 0 0 G [.int a1, .int a2] [] (fun (r9 : Int32) (u9 : va_W) => (r9 = 0 ∧ u9 = []) ∨ (r9 = 1 ∧ u9 = [])) := by
  refine Ci.ofQ (by decide) (Nat.le_of_ble_eq_true rfl) ?_
  intro p e s m below meth c ls A args Q hQ B hw hl
  have C : CallFix p m c cX11_looksLike 3 s args gw "LanternStateModel" := B.1
  have hl : lv_has ls 3 [(0, .int a1), (1, .int a2)] := hl
  refine lv_iconst (v := 0) C.1 C.2.1 dX11_looksLike_0 (by decide) ?_
  refine lv_istore_n (lv' := [(2, .int 0), (0, .int a1), (1, .int a2)]) C.1 C.2.1 dX11_looksLike_1 rfl hl (by decide) rfl (fun ls hl => ?_)
  have loopJ27 : ∀ (n9 : Nat) (j26 : Int32), (2147483647 - j26.toInt).toNat < n9 → (0 ≤ j26.toInt ∧ j26.toInt ≤ 4) → ∀ (H : Heap) (locs : List Loc) (ls : Array Slot), Wd G s A [] H locs → lv_has ls 3 [(2, .int j26), (0, .int a1), (1, .int a2)] → W p l e (rmD 2 0 0) s m args below meth c H locs 0 0 Q (F0 m 2 ls []) := by
    intro n9
    induction n9 with
    | zero => intro j26 h9; exact absurd h9 (Nat.not_lt_zero _)
    | succ n9 ihJ27 =>
      intro j26 h9J27 hJ27_0 H locs ls hw hl
      have hbj26 := i_bd j26
      refine lv_iload_n C.1 C.2.1 dX11_looksLike_2 rfl (lv_at hl 0 rfl) ?_
      refine lv_iconst (v := 4) C.1 C.2.1 dX11_looksLike_3 (by decide) ?_
      refine lv_icmp_ge (tgt := 24) C.1 C.2.1 dX11_looksLike_4 (by decide) (fun c35 => ?_) (fun c35 => ?_)
      · skip
        have c35 : 4 ≤ j26.toInt := i_leT (X := 4) (Y := j26.toInt) rfl rfl c35
        refine lv_iconst (v := 0) C.1 C.2.1 dX11_looksLike_24 (by decide) ?_
        exact x_retzQ hQ B hw rfl (Or.inl ⟨rfl, rfl⟩) (Nat.le_of_ble_eq_true rfl) (Nat.le_of_ble_eq_true rfl) dX11_looksLike_25
      · skip
        have c35 : j26.toInt < 4 := i_leF (X := 4) (Y := j26.toInt) rfl rfl c35
        refine lv_iload_n C.1 C.2.1 dX11_looksLike_7 rfl (lv_at hl 1 rfl) ?_
        refine lv_iload_n C.1 C.2.1 dX11_looksLike_8 rfl (lv_at hl 0 rfl) ?_
        refine x_calliS (As := [.int a1, .int j26]) (rest := []) (wr := []) C hw (s_X11_turned a1 j26) mwX11_turned kw1491 [] [] rfl rfl rfl rfl (by decide) rfl hl.1 rfl (Nat.le_of_ble_eq_true rfl) ⟨(Nat.le_of_ble_eq_true rfl), (Nat.le_of_ble_eq_true rfl)⟩ ⟨(Nat.le_of_ble_eq_true rfl), (Nat.le_of_ble_eq_true rfl)⟩ dX11_looksLike_9 (fun r36 u9 H locs hp9 hw => ?_)
        obtain ⟨x37, rfl, rfl⟩ := hp9
        have hw : Wd G s A [] H _ := hw
        refine lv_iload_n C.1 C.2.1 dX11_looksLike_12 rfl (lv_at hl 2 rfl) ?_
        refine lv_icmp_ne (tgt := 18) C.1 C.2.1 dX11_looksLike_13 (by decide) (fun c38 => ?_) (fun c38 => ?_)
        · skip
          have c38 : r36.toInt ≠ a2.toInt := i_eqF (X := r36.toInt) (Y := a2.toInt) rfl rfl c38
          have bc38_r36 := i_bd r36
          have bc38_a2 := i_bd a2
          obtain ⟨v39, ev39⟩ : ∃ z : Int32, j26 + 1 = z := ⟨_, rfl⟩
          have hv39 : v39.toInt = j26.toInt + 1 := by rw [← ev39]; exact i_add rfl rfl (by omega) (by omega)
          refine lv_iinc (v := v39) (lv' := [(2, .int v39), (0, .int a1), (1, .int a2)]) C.1 C.2.1 dX11_looksLike_18 hl (k := 0) rfl ev39 (by decide) rfl (fun ls hl => ?_)
          refine lv_goto (tgt := 2) C.1 C.2.1 dX11_looksLike_21 (by decide) ?_
          exact ihJ27 v39 (by omega) (by omega) _ _ _ hw (lv_sub hl [0, 1, 2] rfl)
        · skip
          have c38 : r36.toInt = a2.toInt := i_eqT (X := r36.toInt) (Y := a2.toInt) rfl rfl c38
          have bc38_r36 := i_bd r36
          have bc38_a2 := i_bd a2
          refine lv_iconst (v := 1) C.1 C.2.1 dX11_looksLike_16 (by decide) ?_
          exact x_retzQ hQ B hw rfl (Or.inr ⟨rfl, rfl⟩) (Nat.le_of_ble_eq_true rfl) (Nat.le_of_ble_eq_true rfl) dX11_looksLike_17
  exact loopJ27 _ 0 (Nat.lt_succ_self _) (by decide) _ _ _ hw (lv_sub hl [0, 1, 2] rfl)
theorem dX11_isSlide_0 : decode cX11_isSlide 0 = .ok (.iload_n 1, 1) := by decide +kernel
theorem dX11_isSlide_1 : decode cX11_isSlide 1 = .ok (.iconst 0, 1) := by decide +kernel
theorem dX11_isSlide_2 : decode cX11_isSlide 2 = .ok (.aload_n 0, 1) := by decide +kernel
theorem dX11_isSlide_3 : decode cX11_isSlide 3 = .ok (.getfield 98, 3) := by decide +kernel
theorem dX11_isSlide_6 : decode cX11_isSlide 6 = .ok (.iconst 0, 1) := by decide +kernel
theorem dX11_isSlide_7 : decode cX11_isSlide 7 = .ok (.iaload, 1) := by decide +kernel
theorem dX11_isSlide_8 : decode cX11_isSlide 8 = .ok (.iconst 1, 1) := by decide +kernel
theorem dX11_isSlide_9 : decode cX11_isSlide 9 = .ok (.isub, 1) := by decide +kernel
theorem dX11_isSlide_10 : decode cX11_isSlide 10 = .ok (.invokestatic 75, 3) := by decide +kernel
theorem dX11_isSlide_13 : decode cX11_isSlide 13 = .ok (.ireturn, 1) := by decide +kernel
set_option maxHeartbeats 4000000 in
set_option maxRecDepth 100000 in
theorem s_X11_isSlide {l : Launch} {G : Gc} (qm : Nat) (a1 : Int32) (qm_thrown : Int32) (qm_tape : Nat) (qm_taped : Int32) (qm_size : Int32) (qm_limit : Int32) (qm_to : Int32) (qm_from : Int32) (qm_kind : Int32) (qm_number : Int32) (qm_sign : Int32) (qm_fault : Int32) (qm_place : Int32) (qm_word : Int64) (qm_told : Int32) (qm_now : Nat) (qm_read : Nat) (qm_kept : Nat) (qm_snaps : Nat) (qm_aside : Nat) (qm_name : Nat) (qm_readName : Nat) (qm_keptName : Nat) (qm_isKept : Nat) (qm_onces : Nat) (qm_snapMany : Int32) (qm_order : Nat) (qm_ordered : Nat) (qm_orderMany : Int32) (qm_orderMost : Int32) (qm_passing : Int32) (qm_movedWho : Int32) (qm_scratched : Int32) (qm_text : Nat) (qm_texts : Int32) (qm_seed : Int32) (qm_line : Nat) (qm_written : Nat) (qm_lineMany : Int32) (qm_hasWritten : Int32) (qm_node : Nat) (qm_nodes : Int32) (qm_onesMany : Int32) (qm_within : Int32) (qm_top : Int32) (qm_now_c : Nat → Int32) (hf_qm_now_c : slI qm_now_c) (hf1_qm_now_c : trI qm_now_c) : Ci l yX11_isSlide cX11_isSlide 2 (some .boolean) 1 0 0 G [.ref qm, .int a1] [(qm, .inr (10, [.int qm_thrown, .ref qm_tape, .int qm_taped, .int qm_size, .int qm_limit, .int qm_to, .int qm_from, .int qm_kind, .int qm_number, .int qm_sign, .int qm_fault, .int qm_place, .long qm_word, .int qm_told, .ref qm_now, .ref qm_read, .ref qm_kept, .ref qm_snaps, .ref qm_aside, .ref qm_name, .ref qm_readName, .ref qm_keptName, .ref qm_isKept, .ref qm_onces, .int qm_snapMany, .ref qm_order, .ref qm_ordered, .int qm_orderMany, .int qm_orderMost, .int qm_passing, .int qm_movedWho, .int qm_scratched, .ref qm_text, .int qm_texts, .int qm_seed, .ref qm_line, .ref qm_written, .int qm_lineMany, .int qm_hasWritten, .ref qm_node, .int qm_nodes, .int qm_onesMany, .int qm_within, .int qm_top])), (qm_now, eI G 339 qm_now_c)] (fun (r9 : Int32) (u9 : va_W) => (r9 = 0 ∧ u9 = [(qm, .inr (10, [.int qm_thrown, .ref qm_tape, .int qm_taped, .int qm_size, .int qm_limit, .int qm_to, .int qm_from, .int qm_kind, .int qm_number, .int qm_sign, .int qm_fault, .int qm_place, .long qm_word, .int qm_told, .ref qm_now, .ref qm_read, .ref qm_kept, .ref qm_snaps, .ref qm_aside, .ref qm_name, .ref qm_readName, .ref qm_keptName, .ref qm_isKept, .ref qm_onces, .int qm_snapMany, .ref qm_order, .ref qm_ordered, .int qm_orderMany, .int qm_orderMost, .int qm_passing, .int qm_movedWho, .int qm_scratched, .ref qm_text, .int qm_texts, .int qm_seed, .ref qm_line, .ref qm_written, .int qm_lineMany, .int qm_hasWritten, .ref qm_node, .int qm_nodes, .int qm_onesMany, .int qm_within, .int qm_top])), (qm_now, eI G 339 qm_now_c)]) ∨ (r9 = 1 ∧ u9 = [(qm, .inr (10, [.int qm_thrown, .ref qm_tape, .int qm_taped, .int qm_size, .int qm_limit, .int qm_to, .int qm_from, .int qm_kind, .int qm_number, .int qm_sign, .int qm_fault, .int qm_place, .long qm_word, .int qm_told, .ref qm_now, .ref qm_read, .ref qm_kept, .ref qm_snaps, .ref qm_aside, .ref qm_name, .ref qm_readName, .ref qm_keptName, .ref qm_isKept, .ref qm_onces, .int qm_snapMany, .ref qm_order, .ref qm_ordered, .int qm_orderMany, .int qm_orderMost, .int qm_passing, .int qm_movedWho, .int qm_scratched, .ref qm_text, .int qm_texts, .int qm_seed, .ref qm_line, .ref qm_written, .int qm_lineMany, .int qm_hasWritten, .ref qm_node, .int qm_nodes, .int qm_onesMany, .int qm_within, .int qm_top])), (qm_now, eI G 339 qm_now_c)] ∧ (0 ≤ a1.toInt ∧ a1.toInt ≤ 5) ∧ (a1.toInt + 1 ≤ (qm_now_c 0).toInt))) := by
  refine Ci.ofQ (by decide) (Nat.le_of_ble_eq_true rfl) ?_
  intro p e s m below meth c ls A args Q hQ B hw hl
  have C : CallFix p m c cX11_isSlide 2 s args gw "LanternStateModel" := B.1
  have hl : lv_has ls 2 [(0, .ref qm), (1, .int a1)] := hl
  refine lv_iload_n C.1 C.2.1 dX11_isSlide_0 rfl (lv_at hl 1 rfl) ?_
  refine lv_iconst (v := 0) C.1 C.2.1 dX11_isSlide_1 (by decide) ?_
  refine lv_aload_n C.1 C.2.1 dX11_isSlide_2 rfl (lv_at hl 0 rfl) ?_
  refine x_get C hw iwX11 10 rfl 0 rfl 14 (by decide) kw1207 rfl dX11_isSlide_3 ?_
  refine lv_iconst (v := 0) C.1 C.2.1 dX11_isSlide_6 (by decide) ?_
  have mm1 := hf_qm_now_c 0
  refine x_iald (v := (qm_now_c 0)) C hw 1 rfl (x_in rfl) rfl dX11_isSlide_7 (x_genP (fun z : Int32 => z.toInt = (qm_now_c 0).toInt ∧ 0 ≤ z.toInt ∧ z.toInt ≤ 6) ⟨rfl, by omega⟩ (fun v2 hv2 => ?_))
  refine lv_iconst (v := 1) C.1 C.2.1 dX11_isSlide_8 (by decide) ?_
  refine lv_isub C.1 C.2.1 dX11_isSlide_9 (x_genP (fun z : Int32 => z.toInt = v2.toInt - 1) (i_sub (X := v2.toInt) (Y := 1) rfl rfl (by omega) (by omega)) (fun v3 hv3 => ?_))
  refine x_calliS (As := [.int a1, .int 0, .int v3]) (rest := []) (wr := [(qm, .inr (10, [.int qm_thrown, .ref qm_tape, .int qm_taped, .int qm_size, .int qm_limit, .int qm_to, .int qm_from, .int qm_kind, .int qm_number, .int qm_sign, .int qm_fault, .int qm_place, .long qm_word, .int qm_told, .ref qm_now, .ref qm_read, .ref qm_kept, .ref qm_snaps, .ref qm_aside, .ref qm_name, .ref qm_readName, .ref qm_keptName, .ref qm_isKept, .ref qm_onces, .int qm_snapMany, .ref qm_order, .ref qm_ordered, .int qm_orderMany, .int qm_orderMost, .int qm_passing, .int qm_movedWho, .int qm_scratched, .ref qm_text, .int qm_texts, .int qm_seed, .ref qm_line, .ref qm_written, .int qm_lineMany, .int qm_hasWritten, .ref qm_node, .int qm_nodes, .int qm_onesMany, .int qm_within, .int qm_top])), (qm_now, eI G 339 qm_now_c)]) C hw (s_X11_isIn a1 0 v3) mwX11_isIn kw1396 [] [0, 1] rfl rfl rfl rfl (by decide) rfl hl.1 rfl (Nat.le_of_ble_eq_true rfl) ⟨(Nat.le_of_ble_eq_true rfl), (Nat.le_of_ble_eq_true rfl)⟩ ⟨(Nat.le_of_ble_eq_true rfl), (Nat.le_of_ble_eq_true rfl)⟩ dX11_isSlide_10 (fun r4 u9 H locs hp9 hw => ?_)
  rcases hp9 with ⟨rfl, rfl, hf5⟩ | ⟨rfl, rfl, hf6, hf7⟩
  · skip
    have hw : Wd G s A [(qm, .inr (10, [.int qm_thrown, .ref qm_tape, .int qm_taped, .int qm_size, .int qm_limit, .int qm_to, .int qm_from, .int qm_kind, .int qm_number, .int qm_sign, .int qm_fault, .int qm_place, .long qm_word, .int qm_told, .ref qm_now, .ref qm_read, .ref qm_kept, .ref qm_snaps, .ref qm_aside, .ref qm_name, .ref qm_readName, .ref qm_keptName, .ref qm_isKept, .ref qm_onces, .int qm_snapMany, .ref qm_order, .ref qm_ordered, .int qm_orderMany, .int qm_orderMost, .int qm_passing, .int qm_movedWho, .int qm_scratched, .ref qm_text, .int qm_texts, .int qm_seed, .ref qm_line, .ref qm_written, .int qm_lineMany, .int qm_hasWritten, .ref qm_node, .int qm_nodes, .int qm_onesMany, .int qm_within, .int qm_top])), (qm_now, eI G 339 qm_now_c)] H _ := hw
    have hf5 : a1.toInt < 0 ∨ v3.toInt < a1.toInt := by first | exact hf5 | (have e0 : (0 : Int32).toInt = 0 := rfl; omega)
    exact x_retzQ hQ B hw rfl (Or.inl ⟨rfl, rfl⟩) (Nat.le_of_ble_eq_true rfl) (Nat.le_of_ble_eq_true rfl) dX11_isSlide_13
  · skip
    have hw : Wd G s A [(qm, .inr (10, [.int qm_thrown, .ref qm_tape, .int qm_taped, .int qm_size, .int qm_limit, .int qm_to, .int qm_from, .int qm_kind, .int qm_number, .int qm_sign, .int qm_fault, .int qm_place, .long qm_word, .int qm_told, .ref qm_now, .ref qm_read, .ref qm_kept, .ref qm_snaps, .ref qm_aside, .ref qm_name, .ref qm_readName, .ref qm_keptName, .ref qm_isKept, .ref qm_onces, .int qm_snapMany, .ref qm_order, .ref qm_ordered, .int qm_orderMany, .int qm_orderMost, .int qm_passing, .int qm_movedWho, .int qm_scratched, .ref qm_text, .int qm_texts, .int qm_seed, .ref qm_line, .ref qm_written, .int qm_lineMany, .int qm_hasWritten, .ref qm_node, .int qm_nodes, .int qm_onesMany, .int qm_within, .int qm_top])), (qm_now, eI G 339 qm_now_c)] H _ := hw
    have hf6 : 0 ≤ a1.toInt := by first | exact hf6 | (have e0 : (0 : Int32).toInt = 0 := rfl; omega)
    exact x_retzQ hQ B hw rfl (Or.inr ⟨rfl, rfl, (by omega), (by omega)⟩) (Nat.le_of_ble_eq_true rfl) (Nat.le_of_ble_eq_true rfl) dX11_isSlide_13
theorem dX11_isHearer_0 : decode cX11_isHearer 0 = .ok (.iload_n 1, 1) := by decide +kernel
theorem dX11_isHearer_1 : decode cX11_isHearer 1 = .ok (.iconst 0, 1) := by decide +kernel
theorem dX11_isHearer_2 : decode cX11_isHearer 2 = .ok (.aload_n 0, 1) := by decide +kernel
theorem dX11_isHearer_3 : decode cX11_isHearer 3 = .ok (.getfield 98, 3) := by decide +kernel
theorem dX11_isHearer_6 : decode cX11_isHearer 6 = .ok (.iconst 1, 1) := by decide +kernel
theorem dX11_isHearer_7 : decode cX11_isHearer 7 = .ok (.iaload, 1) := by decide +kernel
theorem dX11_isHearer_8 : decode cX11_isHearer 8 = .ok (.iconst 1, 1) := by decide +kernel
theorem dX11_isHearer_9 : decode cX11_isHearer 9 = .ok (.isub, 1) := by decide +kernel
theorem dX11_isHearer_10 : decode cX11_isHearer 10 = .ok (.invokestatic 75, 3) := by decide +kernel
theorem dX11_isHearer_13 : decode cX11_isHearer 13 = .ok (.ireturn, 1) := by decide +kernel
set_option maxHeartbeats 4000000 in
set_option maxRecDepth 100000 in
theorem s_X11_isHearer {l : Launch} {G : Gc} (qm : Nat) (a1 : Int32) (qm_thrown : Int32) (qm_tape : Nat) (qm_taped : Int32) (qm_size : Int32) (qm_limit : Int32) (qm_to : Int32) (qm_from : Int32) (qm_kind : Int32) (qm_number : Int32) (qm_sign : Int32) (qm_fault : Int32) (qm_place : Int32) (qm_word : Int64) (qm_told : Int32) (qm_now : Nat) (qm_read : Nat) (qm_kept : Nat) (qm_snaps : Nat) (qm_aside : Nat) (qm_name : Nat) (qm_readName : Nat) (qm_keptName : Nat) (qm_isKept : Nat) (qm_onces : Nat) (qm_snapMany : Int32) (qm_order : Nat) (qm_ordered : Nat) (qm_orderMany : Int32) (qm_orderMost : Int32) (qm_passing : Int32) (qm_movedWho : Int32) (qm_scratched : Int32) (qm_text : Nat) (qm_texts : Int32) (qm_seed : Int32) (qm_line : Nat) (qm_written : Nat) (qm_lineMany : Int32) (qm_hasWritten : Int32) (qm_node : Nat) (qm_nodes : Int32) (qm_onesMany : Int32) (qm_within : Int32) (qm_top : Int32) (qm_now_c : Nat → Int32) (hf_qm_now_c : slI qm_now_c) (hf1_qm_now_c : trI qm_now_c) : Ci l yX11_isHearer cX11_isHearer 2 (some .boolean) 1 0 0 G [.ref qm, .int a1] [(qm, .inr (10, [.int qm_thrown, .ref qm_tape, .int qm_taped, .int qm_size, .int qm_limit, .int qm_to, .int qm_from, .int qm_kind, .int qm_number, .int qm_sign, .int qm_fault, .int qm_place, .long qm_word, .int qm_told, .ref qm_now, .ref qm_read, .ref qm_kept, .ref qm_snaps, .ref qm_aside, .ref qm_name, .ref qm_readName, .ref qm_keptName, .ref qm_isKept, .ref qm_onces, .int qm_snapMany, .ref qm_order, .ref qm_ordered, .int qm_orderMany, .int qm_orderMost, .int qm_passing, .int qm_movedWho, .int qm_scratched, .ref qm_text, .int qm_texts, .int qm_seed, .ref qm_line, .ref qm_written, .int qm_lineMany, .int qm_hasWritten, .ref qm_node, .int qm_nodes, .int qm_onesMany, .int qm_within, .int qm_top])), (qm_now, eI G 339 qm_now_c)] (fun (r9 : Int32) (u9 : va_W) => (r9 = 0 ∧ u9 = [(qm, .inr (10, [.int qm_thrown, .ref qm_tape, .int qm_taped, .int qm_size, .int qm_limit, .int qm_to, .int qm_from, .int qm_kind, .int qm_number, .int qm_sign, .int qm_fault, .int qm_place, .long qm_word, .int qm_told, .ref qm_now, .ref qm_read, .ref qm_kept, .ref qm_snaps, .ref qm_aside, .ref qm_name, .ref qm_readName, .ref qm_keptName, .ref qm_isKept, .ref qm_onces, .int qm_snapMany, .ref qm_order, .ref qm_ordered, .int qm_orderMany, .int qm_orderMost, .int qm_passing, .int qm_movedWho, .int qm_scratched, .ref qm_text, .int qm_texts, .int qm_seed, .ref qm_line, .ref qm_written, .int qm_lineMany, .int qm_hasWritten, .ref qm_node, .int qm_nodes, .int qm_onesMany, .int qm_within, .int qm_top])), (qm_now, eI G 339 qm_now_c)]) ∨ (r9 = 1 ∧ u9 = [(qm, .inr (10, [.int qm_thrown, .ref qm_tape, .int qm_taped, .int qm_size, .int qm_limit, .int qm_to, .int qm_from, .int qm_kind, .int qm_number, .int qm_sign, .int qm_fault, .int qm_place, .long qm_word, .int qm_told, .ref qm_now, .ref qm_read, .ref qm_kept, .ref qm_snaps, .ref qm_aside, .ref qm_name, .ref qm_readName, .ref qm_keptName, .ref qm_isKept, .ref qm_onces, .int qm_snapMany, .ref qm_order, .ref qm_ordered, .int qm_orderMany, .int qm_orderMost, .int qm_passing, .int qm_movedWho, .int qm_scratched, .ref qm_text, .int qm_texts, .int qm_seed, .ref qm_line, .ref qm_written, .int qm_lineMany, .int qm_hasWritten, .ref qm_node, .int qm_nodes, .int qm_onesMany, .int qm_within, .int qm_top])), (qm_now, eI G 339 qm_now_c)] ∧ (0 ≤ a1.toInt ∧ a1.toInt ≤ 7))) := by
  refine Ci.ofQ (by decide) (Nat.le_of_ble_eq_true rfl) ?_
  intro p e s m below meth c ls A args Q hQ B hw hl
  have C : CallFix p m c cX11_isHearer 2 s args gw "LanternStateModel" := B.1
  have hl : lv_has ls 2 [(0, .ref qm), (1, .int a1)] := hl
  refine lv_iload_n C.1 C.2.1 dX11_isHearer_0 rfl (lv_at hl 1 rfl) ?_
  refine lv_iconst (v := 0) C.1 C.2.1 dX11_isHearer_1 (by decide) ?_
  refine lv_aload_n C.1 C.2.1 dX11_isHearer_2 rfl (lv_at hl 0 rfl) ?_
  refine x_get C hw iwX11 10 rfl 0 rfl 14 (by decide) kw1207 rfl dX11_isHearer_3 ?_
  refine lv_iconst (v := 1) C.1 C.2.1 dX11_isHearer_6 (by decide) ?_
  have mm1 := hf_qm_now_c 1
  refine x_iald (v := (qm_now_c 1)) C hw 1 rfl (x_in rfl) rfl dX11_isHearer_7 (x_genP (fun z : Int32 => z.toInt = (qm_now_c 1).toInt ∧ 0 ≤ z.toInt ∧ z.toInt ≤ 8) ⟨rfl, by omega⟩ (fun v2 hv2 => ?_))
  refine lv_iconst (v := 1) C.1 C.2.1 dX11_isHearer_8 (by decide) ?_
  refine lv_isub C.1 C.2.1 dX11_isHearer_9 (x_genP (fun z : Int32 => z.toInt = v2.toInt - 1) (i_sub (X := v2.toInt) (Y := 1) rfl rfl (by omega) (by omega)) (fun v3 hv3 => ?_))
  refine x_calliS (As := [.int a1, .int 0, .int v3]) (rest := []) (wr := [(qm, .inr (10, [.int qm_thrown, .ref qm_tape, .int qm_taped, .int qm_size, .int qm_limit, .int qm_to, .int qm_from, .int qm_kind, .int qm_number, .int qm_sign, .int qm_fault, .int qm_place, .long qm_word, .int qm_told, .ref qm_now, .ref qm_read, .ref qm_kept, .ref qm_snaps, .ref qm_aside, .ref qm_name, .ref qm_readName, .ref qm_keptName, .ref qm_isKept, .ref qm_onces, .int qm_snapMany, .ref qm_order, .ref qm_ordered, .int qm_orderMany, .int qm_orderMost, .int qm_passing, .int qm_movedWho, .int qm_scratched, .ref qm_text, .int qm_texts, .int qm_seed, .ref qm_line, .ref qm_written, .int qm_lineMany, .int qm_hasWritten, .ref qm_node, .int qm_nodes, .int qm_onesMany, .int qm_within, .int qm_top])), (qm_now, eI G 339 qm_now_c)]) C hw (s_X11_isIn a1 0 v3) mwX11_isIn kw1396 [] [0, 1] rfl rfl rfl rfl (by decide) rfl hl.1 rfl (Nat.le_of_ble_eq_true rfl) ⟨(Nat.le_of_ble_eq_true rfl), (Nat.le_of_ble_eq_true rfl)⟩ ⟨(Nat.le_of_ble_eq_true rfl), (Nat.le_of_ble_eq_true rfl)⟩ dX11_isHearer_10 (fun r4 u9 H locs hp9 hw => ?_)
  rcases hp9 with ⟨rfl, rfl, hf5⟩ | ⟨rfl, rfl, hf6, hf7⟩
  · skip
    have hw : Wd G s A [(qm, .inr (10, [.int qm_thrown, .ref qm_tape, .int qm_taped, .int qm_size, .int qm_limit, .int qm_to, .int qm_from, .int qm_kind, .int qm_number, .int qm_sign, .int qm_fault, .int qm_place, .long qm_word, .int qm_told, .ref qm_now, .ref qm_read, .ref qm_kept, .ref qm_snaps, .ref qm_aside, .ref qm_name, .ref qm_readName, .ref qm_keptName, .ref qm_isKept, .ref qm_onces, .int qm_snapMany, .ref qm_order, .ref qm_ordered, .int qm_orderMany, .int qm_orderMost, .int qm_passing, .int qm_movedWho, .int qm_scratched, .ref qm_text, .int qm_texts, .int qm_seed, .ref qm_line, .ref qm_written, .int qm_lineMany, .int qm_hasWritten, .ref qm_node, .int qm_nodes, .int qm_onesMany, .int qm_within, .int qm_top])), (qm_now, eI G 339 qm_now_c)] H _ := hw
    have hf5 : a1.toInt < 0 ∨ v3.toInt < a1.toInt := by first | exact hf5 | (have e0 : (0 : Int32).toInt = 0 := rfl; omega)
    exact x_retzQ hQ B hw rfl (Or.inl ⟨rfl, rfl⟩) (Nat.le_of_ble_eq_true rfl) (Nat.le_of_ble_eq_true rfl) dX11_isHearer_13
  · skip
    have hw : Wd G s A [(qm, .inr (10, [.int qm_thrown, .ref qm_tape, .int qm_taped, .int qm_size, .int qm_limit, .int qm_to, .int qm_from, .int qm_kind, .int qm_number, .int qm_sign, .int qm_fault, .int qm_place, .long qm_word, .int qm_told, .ref qm_now, .ref qm_read, .ref qm_kept, .ref qm_snaps, .ref qm_aside, .ref qm_name, .ref qm_readName, .ref qm_keptName, .ref qm_isKept, .ref qm_onces, .int qm_snapMany, .ref qm_order, .ref qm_ordered, .int qm_orderMany, .int qm_orderMost, .int qm_passing, .int qm_movedWho, .int qm_scratched, .ref qm_text, .int qm_texts, .int qm_seed, .ref qm_line, .ref qm_written, .int qm_lineMany, .int qm_hasWritten, .ref qm_node, .int qm_nodes, .int qm_onesMany, .int qm_within, .int qm_top])), (qm_now, eI G 339 qm_now_c)] H _ := hw
    have hf6 : 0 ≤ a1.toInt := by first | exact hf6 | (have e0 : (0 : Int32).toInt = 0 := rfl; omega)
    exact x_retzQ hQ B hw rfl (Or.inr ⟨rfl, rfl, (by omega)⟩) (Nat.le_of_ble_eq_true rfl) (Nat.le_of_ble_eq_true rfl) dX11_isHearer_13
theorem dX11_isCracked_0 : decode cX11_isCracked 0 = .ok (.aload_n 0, 1) := by decide +kernel
theorem dX11_isCracked_1 : decode cX11_isCracked 1 = .ok (.getfield 98, 3) := by decide +kernel
theorem dX11_isCracked_4 : decode cX11_isCracked 4 = .ok (.bipush 68, 2) := by decide +kernel
theorem dX11_isCracked_6 : decode cX11_isCracked 6 = .ok (.iaload, 1) := by decide +kernel
theorem dX11_isCracked_7 : decode cX11_isCracked 7 = .ok (.iload_n 1, 1) := by decide +kernel
theorem dX11_isCracked_8 : decode cX11_isCracked 8 = .ok (.invokestatic 195, 3) := by decide +kernel
theorem dX11_isCracked_11 : decode cX11_isCracked 11 = .ok (.ireturn, 1) := by decide +kernel
set_option maxHeartbeats 4000000 in
set_option maxRecDepth 100000 in
theorem s_X11_isCracked {l : Launch} {G : Gc} (qm : Nat) (a1 : Int32) (qm_thrown : Int32) (qm_tape : Nat) (qm_taped : Int32) (qm_size : Int32) (qm_limit : Int32) (qm_to : Int32) (qm_from : Int32) (qm_kind : Int32) (qm_number : Int32) (qm_sign : Int32) (qm_fault : Int32) (qm_place : Int32) (qm_word : Int64) (qm_told : Int32) (qm_now : Nat) (qm_read : Nat) (qm_kept : Nat) (qm_snaps : Nat) (qm_aside : Nat) (qm_name : Nat) (qm_readName : Nat) (qm_keptName : Nat) (qm_isKept : Nat) (qm_onces : Nat) (qm_snapMany : Int32) (qm_order : Nat) (qm_ordered : Nat) (qm_orderMany : Int32) (qm_orderMost : Int32) (qm_passing : Int32) (qm_movedWho : Int32) (qm_scratched : Int32) (qm_text : Nat) (qm_texts : Int32) (qm_seed : Int32) (qm_line : Nat) (qm_written : Nat) (qm_lineMany : Int32) (qm_hasWritten : Int32) (qm_node : Nat) (qm_nodes : Int32) (qm_onesMany : Int32) (qm_within : Int32) (qm_top : Int32) (qm_now_c : Nat → Int32) (hf_qm_now_c : slI qm_now_c) (hf1_qm_now_c : trI qm_now_c) : Ci l yX11_isCracked cX11_isCracked 2 (some .boolean) 1 0 0 G [.ref qm, .int a1] [(qm, .inr (10, [.int qm_thrown, .ref qm_tape, .int qm_taped, .int qm_size, .int qm_limit, .int qm_to, .int qm_from, .int qm_kind, .int qm_number, .int qm_sign, .int qm_fault, .int qm_place, .long qm_word, .int qm_told, .ref qm_now, .ref qm_read, .ref qm_kept, .ref qm_snaps, .ref qm_aside, .ref qm_name, .ref qm_readName, .ref qm_keptName, .ref qm_isKept, .ref qm_onces, .int qm_snapMany, .ref qm_order, .ref qm_ordered, .int qm_orderMany, .int qm_orderMost, .int qm_passing, .int qm_movedWho, .int qm_scratched, .ref qm_text, .int qm_texts, .int qm_seed, .ref qm_line, .ref qm_written, .int qm_lineMany, .int qm_hasWritten, .ref qm_node, .int qm_nodes, .int qm_onesMany, .int qm_within, .int qm_top])), (qm_now, eI G 339 qm_now_c)] (fun (r9 : Int32) (u9 : va_W) => (r9 = 0 ∧ u9 = [(qm, .inr (10, [.int qm_thrown, .ref qm_tape, .int qm_taped, .int qm_size, .int qm_limit, .int qm_to, .int qm_from, .int qm_kind, .int qm_number, .int qm_sign, .int qm_fault, .int qm_place, .long qm_word, .int qm_told, .ref qm_now, .ref qm_read, .ref qm_kept, .ref qm_snaps, .ref qm_aside, .ref qm_name, .ref qm_readName, .ref qm_keptName, .ref qm_isKept, .ref qm_onces, .int qm_snapMany, .ref qm_order, .ref qm_ordered, .int qm_orderMany, .int qm_orderMost, .int qm_passing, .int qm_movedWho, .int qm_scratched, .ref qm_text, .int qm_texts, .int qm_seed, .ref qm_line, .ref qm_written, .int qm_lineMany, .int qm_hasWritten, .ref qm_node, .int qm_nodes, .int qm_onesMany, .int qm_within, .int qm_top])), (qm_now, eI G 339 qm_now_c)]) ∨ (r9 = 1 ∧ u9 = [(qm, .inr (10, [.int qm_thrown, .ref qm_tape, .int qm_taped, .int qm_size, .int qm_limit, .int qm_to, .int qm_from, .int qm_kind, .int qm_number, .int qm_sign, .int qm_fault, .int qm_place, .long qm_word, .int qm_told, .ref qm_now, .ref qm_read, .ref qm_kept, .ref qm_snaps, .ref qm_aside, .ref qm_name, .ref qm_readName, .ref qm_keptName, .ref qm_isKept, .ref qm_onces, .int qm_snapMany, .ref qm_order, .ref qm_ordered, .int qm_orderMany, .int qm_orderMost, .int qm_passing, .int qm_movedWho, .int qm_scratched, .ref qm_text, .int qm_texts, .int qm_seed, .ref qm_line, .ref qm_written, .int qm_lineMany, .int qm_hasWritten, .ref qm_node, .int qm_nodes, .int qm_onesMany, .int qm_within, .int qm_top])), (qm_now, eI G 339 qm_now_c)])) := by
  refine Ci.ofQ (by decide) (Nat.le_of_ble_eq_true rfl) ?_
  intro p e s m below meth c ls A args Q hQ B hw hl
  have C : CallFix p m c cX11_isCracked 2 s args gw "LanternStateModel" := B.1
  have hl : lv_has ls 2 [(0, .ref qm), (1, .int a1)] := hl
  refine lv_aload_n C.1 C.2.1 dX11_isCracked_0 rfl (lv_at hl 0 rfl) ?_
  refine x_get C hw iwX11 10 rfl 0 rfl 14 (by decide) kw1207 rfl dX11_isCracked_1 ?_
  refine lv_bipush (v := 68) C.1 C.2.1 dX11_isCracked_4 (by decide) ?_
  refine x_iald (v := (qm_now_c 68)) C hw 1 rfl (x_in rfl) rfl dX11_isCracked_6 (x_gen (fun v1 => ?_))
  refine lv_iload_n C.1 C.2.1 dX11_isCracked_7 rfl (lv_at hl 1 rfl) ?_
  refine x_calliS (As := [.int v1, .int a1]) (rest := []) (wr := [(qm, .inr (10, [.int qm_thrown, .ref qm_tape, .int qm_taped, .int qm_size, .int qm_limit, .int qm_to, .int qm_from, .int qm_kind, .int qm_number, .int qm_sign, .int qm_fault, .int qm_place, .long qm_word, .int qm_told, .ref qm_now, .ref qm_read, .ref qm_kept, .ref qm_snaps, .ref qm_aside, .ref qm_name, .ref qm_readName, .ref qm_keptName, .ref qm_isKept, .ref qm_onces, .int qm_snapMany, .ref qm_order, .ref qm_ordered, .int qm_orderMany, .int qm_orderMost, .int qm_passing, .int qm_movedWho, .int qm_scratched, .ref qm_text, .int qm_texts, .int qm_seed, .ref qm_line, .ref qm_written, .int qm_lineMany, .int qm_hasWritten, .ref qm_node, .int qm_nodes, .int qm_onesMany, .int qm_within, .int qm_top])), (qm_now, eI G 339 qm_now_c)]) C hw (s_X11_has v1 a1) mwX11_has kw1426 [] [0, 1] rfl rfl rfl rfl (by decide) rfl hl.1 rfl (Nat.le_of_ble_eq_true rfl) ⟨(Nat.le_of_ble_eq_true rfl), (Nat.le_of_ble_eq_true rfl)⟩ ⟨(Nat.le_of_ble_eq_true rfl), (Nat.le_of_ble_eq_true rfl)⟩ dX11_isCracked_8 (fun r2 u9 H locs hp9 hw => ?_)
  rcases hp9 with ⟨rfl, rfl⟩ | ⟨rfl, rfl, hf3⟩
  · skip
    have hw : Wd G s A [(qm, .inr (10, [.int qm_thrown, .ref qm_tape, .int qm_taped, .int qm_size, .int qm_limit, .int qm_to, .int qm_from, .int qm_kind, .int qm_number, .int qm_sign, .int qm_fault, .int qm_place, .long qm_word, .int qm_told, .ref qm_now, .ref qm_read, .ref qm_kept, .ref qm_snaps, .ref qm_aside, .ref qm_name, .ref qm_readName, .ref qm_keptName, .ref qm_isKept, .ref qm_onces, .int qm_snapMany, .ref qm_order, .ref qm_ordered, .int qm_orderMany, .int qm_orderMost, .int qm_passing, .int qm_movedWho, .int qm_scratched, .ref qm_text, .int qm_texts, .int qm_seed, .ref qm_line, .ref qm_written, .int qm_lineMany, .int qm_hasWritten, .ref qm_node, .int qm_nodes, .int qm_onesMany, .int qm_within, .int qm_top])), (qm_now, eI G 339 qm_now_c)] H _ := hw
    exact x_retzQ hQ B hw rfl (Or.inl ⟨rfl, rfl⟩) (Nat.le_of_ble_eq_true rfl) (Nat.le_of_ble_eq_true rfl) dX11_isCracked_11
  · skip
    have hw : Wd G s A [(qm, .inr (10, [.int qm_thrown, .ref qm_tape, .int qm_taped, .int qm_size, .int qm_limit, .int qm_to, .int qm_from, .int qm_kind, .int qm_number, .int qm_sign, .int qm_fault, .int qm_place, .long qm_word, .int qm_told, .ref qm_now, .ref qm_read, .ref qm_kept, .ref qm_snaps, .ref qm_aside, .ref qm_name, .ref qm_readName, .ref qm_keptName, .ref qm_isKept, .ref qm_onces, .int qm_snapMany, .ref qm_order, .ref qm_ordered, .int qm_orderMany, .int qm_orderMost, .int qm_passing, .int qm_movedWho, .int qm_scratched, .ref qm_text, .int qm_texts, .int qm_seed, .ref qm_line, .ref qm_written, .int qm_lineMany, .int qm_hasWritten, .ref qm_node, .int qm_nodes, .int qm_onesMany, .int qm_within, .int qm_top])), (qm_now, eI G 339 qm_now_c)] H _ := hw
    exact x_retzQ hQ B hw rfl (Or.inr ⟨rfl, rfl⟩) (Nat.le_of_ble_eq_true rfl) (Nat.le_of_ble_eq_true rfl) dX11_isCracked_11
theorem dX11_isSo_0 : decode cX11_isSo 0 = .ok (.aload_n 0, 1) := by decide +kernel
theorem dX11_isSo_1 : decode cX11_isSo 1 = .ok (.getfield 98, 3) := by decide +kernel
theorem dX11_isSo_4 : decode cX11_isSo 4 = .ok (.bipush 67, 2) := by decide +kernel
theorem dX11_isSo_6 : decode cX11_isSo 6 = .ok (.iaload, 1) := by decide +kernel
theorem dX11_isSo_7 : decode cX11_isSo 7 = .ok (.iload_n 1, 1) := by decide +kernel
theorem dX11_isSo_8 : decode cX11_isSo 8 = .ok (.invokestatic 195, 3) := by decide +kernel
theorem dX11_isSo_11 : decode cX11_isSo 11 = .ok (.ireturn, 1) := by decide +kernel
set_option maxHeartbeats 4000000 in
set_option maxRecDepth 100000 in
theorem s_X11_isSo {l : Launch} {G : Gc} (qm : Nat) (a1 : Int32) (qm_thrown : Int32) (qm_tape : Nat) (qm_taped : Int32) (qm_size : Int32) (qm_limit : Int32) (qm_to : Int32) (qm_from : Int32) (qm_kind : Int32) (qm_number : Int32) (qm_sign : Int32) (qm_fault : Int32) (qm_place : Int32) (qm_word : Int64) (qm_told : Int32) (qm_now : Nat) (qm_read : Nat) (qm_kept : Nat) (qm_snaps : Nat) (qm_aside : Nat) (qm_name : Nat) (qm_readName : Nat) (qm_keptName : Nat) (qm_isKept : Nat) (qm_onces : Nat) (qm_snapMany : Int32) (qm_order : Nat) (qm_ordered : Nat) (qm_orderMany : Int32) (qm_orderMost : Int32) (qm_passing : Int32) (qm_movedWho : Int32) (qm_scratched : Int32) (qm_text : Nat) (qm_texts : Int32) (qm_seed : Int32) (qm_line : Nat) (qm_written : Nat) (qm_lineMany : Int32) (qm_hasWritten : Int32) (qm_node : Nat) (qm_nodes : Int32) (qm_onesMany : Int32) (qm_within : Int32) (qm_top : Int32) (qm_now_c : Nat → Int32) (hf_qm_now_c : slI qm_now_c) (hf1_qm_now_c : trI qm_now_c) : Ci l yX11_isSo cX11_isSo 2 (some .boolean) 1 0 0 G [.ref qm, .int a1] [(qm, .inr (10, [.int qm_thrown, .ref qm_tape, .int qm_taped, .int qm_size, .int qm_limit, .int qm_to, .int qm_from, .int qm_kind, .int qm_number, .int qm_sign, .int qm_fault, .int qm_place, .long qm_word, .int qm_told, .ref qm_now, .ref qm_read, .ref qm_kept, .ref qm_snaps, .ref qm_aside, .ref qm_name, .ref qm_readName, .ref qm_keptName, .ref qm_isKept, .ref qm_onces, .int qm_snapMany, .ref qm_order, .ref qm_ordered, .int qm_orderMany, .int qm_orderMost, .int qm_passing, .int qm_movedWho, .int qm_scratched, .ref qm_text, .int qm_texts, .int qm_seed, .ref qm_line, .ref qm_written, .int qm_lineMany, .int qm_hasWritten, .ref qm_node, .int qm_nodes, .int qm_onesMany, .int qm_within, .int qm_top])), (qm_now, eI G 339 qm_now_c)] (fun (r9 : Int32) (u9 : va_W) => (r9 = 0 ∧ u9 = [(qm, .inr (10, [.int qm_thrown, .ref qm_tape, .int qm_taped, .int qm_size, .int qm_limit, .int qm_to, .int qm_from, .int qm_kind, .int qm_number, .int qm_sign, .int qm_fault, .int qm_place, .long qm_word, .int qm_told, .ref qm_now, .ref qm_read, .ref qm_kept, .ref qm_snaps, .ref qm_aside, .ref qm_name, .ref qm_readName, .ref qm_keptName, .ref qm_isKept, .ref qm_onces, .int qm_snapMany, .ref qm_order, .ref qm_ordered, .int qm_orderMany, .int qm_orderMost, .int qm_passing, .int qm_movedWho, .int qm_scratched, .ref qm_text, .int qm_texts, .int qm_seed, .ref qm_line, .ref qm_written, .int qm_lineMany, .int qm_hasWritten, .ref qm_node, .int qm_nodes, .int qm_onesMany, .int qm_within, .int qm_top])), (qm_now, eI G 339 qm_now_c)]) ∨ (r9 = 1 ∧ u9 = [(qm, .inr (10, [.int qm_thrown, .ref qm_tape, .int qm_taped, .int qm_size, .int qm_limit, .int qm_to, .int qm_from, .int qm_kind, .int qm_number, .int qm_sign, .int qm_fault, .int qm_place, .long qm_word, .int qm_told, .ref qm_now, .ref qm_read, .ref qm_kept, .ref qm_snaps, .ref qm_aside, .ref qm_name, .ref qm_readName, .ref qm_keptName, .ref qm_isKept, .ref qm_onces, .int qm_snapMany, .ref qm_order, .ref qm_ordered, .int qm_orderMany, .int qm_orderMost, .int qm_passing, .int qm_movedWho, .int qm_scratched, .ref qm_text, .int qm_texts, .int qm_seed, .ref qm_line, .ref qm_written, .int qm_lineMany, .int qm_hasWritten, .ref qm_node, .int qm_nodes, .int qm_onesMany, .int qm_within, .int qm_top])), (qm_now, eI G 339 qm_now_c)])) := by
  refine Ci.ofQ (by decide) (Nat.le_of_ble_eq_true rfl) ?_
  intro p e s m below meth c ls A args Q hQ B hw hl
  have C : CallFix p m c cX11_isSo 2 s args gw "LanternStateModel" := B.1
  have hl : lv_has ls 2 [(0, .ref qm), (1, .int a1)] := hl
  refine lv_aload_n C.1 C.2.1 dX11_isSo_0 rfl (lv_at hl 0 rfl) ?_
  refine x_get C hw iwX11 10 rfl 0 rfl 14 (by decide) kw1207 rfl dX11_isSo_1 ?_
  refine lv_bipush (v := 67) C.1 C.2.1 dX11_isSo_4 (by decide) ?_
  refine x_iald (v := (qm_now_c 67)) C hw 1 rfl (x_in rfl) rfl dX11_isSo_6 (x_gen (fun v1 => ?_))
  refine lv_iload_n C.1 C.2.1 dX11_isSo_7 rfl (lv_at hl 1 rfl) ?_
  refine x_calliS (As := [.int v1, .int a1]) (rest := []) (wr := [(qm, .inr (10, [.int qm_thrown, .ref qm_tape, .int qm_taped, .int qm_size, .int qm_limit, .int qm_to, .int qm_from, .int qm_kind, .int qm_number, .int qm_sign, .int qm_fault, .int qm_place, .long qm_word, .int qm_told, .ref qm_now, .ref qm_read, .ref qm_kept, .ref qm_snaps, .ref qm_aside, .ref qm_name, .ref qm_readName, .ref qm_keptName, .ref qm_isKept, .ref qm_onces, .int qm_snapMany, .ref qm_order, .ref qm_ordered, .int qm_orderMany, .int qm_orderMost, .int qm_passing, .int qm_movedWho, .int qm_scratched, .ref qm_text, .int qm_texts, .int qm_seed, .ref qm_line, .ref qm_written, .int qm_lineMany, .int qm_hasWritten, .ref qm_node, .int qm_nodes, .int qm_onesMany, .int qm_within, .int qm_top])), (qm_now, eI G 339 qm_now_c)]) C hw (s_X11_has v1 a1) mwX11_has kw1426 [] [0, 1] rfl rfl rfl rfl (by decide) rfl hl.1 rfl (Nat.le_of_ble_eq_true rfl) ⟨(Nat.le_of_ble_eq_true rfl), (Nat.le_of_ble_eq_true rfl)⟩ ⟨(Nat.le_of_ble_eq_true rfl), (Nat.le_of_ble_eq_true rfl)⟩ dX11_isSo_8 (fun r2 u9 H locs hp9 hw => ?_)
  rcases hp9 with ⟨rfl, rfl⟩ | ⟨rfl, rfl, hf3⟩
  · skip
    have hw : Wd G s A [(qm, .inr (10, [.int qm_thrown, .ref qm_tape, .int qm_taped, .int qm_size, .int qm_limit, .int qm_to, .int qm_from, .int qm_kind, .int qm_number, .int qm_sign, .int qm_fault, .int qm_place, .long qm_word, .int qm_told, .ref qm_now, .ref qm_read, .ref qm_kept, .ref qm_snaps, .ref qm_aside, .ref qm_name, .ref qm_readName, .ref qm_keptName, .ref qm_isKept, .ref qm_onces, .int qm_snapMany, .ref qm_order, .ref qm_ordered, .int qm_orderMany, .int qm_orderMost, .int qm_passing, .int qm_movedWho, .int qm_scratched, .ref qm_text, .int qm_texts, .int qm_seed, .ref qm_line, .ref qm_written, .int qm_lineMany, .int qm_hasWritten, .ref qm_node, .int qm_nodes, .int qm_onesMany, .int qm_within, .int qm_top])), (qm_now, eI G 339 qm_now_c)] H _ := hw
    exact x_retzQ hQ B hw rfl (Or.inl ⟨rfl, rfl⟩) (Nat.le_of_ble_eq_true rfl) (Nat.le_of_ble_eq_true rfl) dX11_isSo_11
  · skip
    have hw : Wd G s A [(qm, .inr (10, [.int qm_thrown, .ref qm_tape, .int qm_taped, .int qm_size, .int qm_limit, .int qm_to, .int qm_from, .int qm_kind, .int qm_number, .int qm_sign, .int qm_fault, .int qm_place, .long qm_word, .int qm_told, .ref qm_now, .ref qm_read, .ref qm_kept, .ref qm_snaps, .ref qm_aside, .ref qm_name, .ref qm_readName, .ref qm_keptName, .ref qm_isKept, .ref qm_onces, .int qm_snapMany, .ref qm_order, .ref qm_ordered, .int qm_orderMany, .int qm_orderMost, .int qm_passing, .int qm_movedWho, .int qm_scratched, .ref qm_text, .int qm_texts, .int qm_seed, .ref qm_line, .ref qm_written, .int qm_lineMany, .int qm_hasWritten, .ref qm_node, .int qm_nodes, .int qm_onesMany, .int qm_within, .int qm_top])), (qm_now, eI G 339 qm_now_c)] H _ := hw
    exact x_retzQ hQ B hw rfl (Or.inr ⟨rfl, rfl⟩) (Nat.le_of_ble_eq_true rfl) (Nat.le_of_ble_eq_true rfl) dX11_isSo_11
theorem dX11_seats_0 : decode cX11_seats 0 = .ok (.iconst 0, 1) := by decide +kernel
theorem dX11_seats_1 : decode cX11_seats 1 = .ok (.istore_n 1, 1) := by decide +kernel
theorem dX11_seats_2 : decode cX11_seats 2 = .ok (.iconst 0, 1) := by decide +kernel
theorem dX11_seats_3 : decode cX11_seats 3 = .ok (.istore_n 2, 1) := by decide +kernel
theorem dX11_seats_4 : decode cX11_seats 4 = .ok (.iload_n 2, 1) := by decide +kernel
theorem dX11_seats_5 : decode cX11_seats 5 = .ok (.aload_n 0, 1) := by decide +kernel
theorem dX11_seats_6 : decode cX11_seats 6 = .ok (.getfield 98, 3) := by decide +kernel
theorem dX11_seats_9 : decode cX11_seats 9 = .ok (.iconst 1, 1) := by decide +kernel
theorem dX11_seats_10 : decode cX11_seats 10 = .ok (.iaload, 1) := by decide +kernel
theorem dX11_seats_11 : decode cX11_seats 11 = .ok (.if_icmp .ge 28, 3) := by decide +kernel
theorem dX11_seats_14 : decode cX11_seats 14 = .ok (.aload_n 0, 1) := by decide +kernel
theorem dX11_seats_15 : decode cX11_seats 15 = .ok (.getfield 98, 3) := by decide +kernel
theorem dX11_seats_18 : decode cX11_seats 18 = .ok (.bipush 81, 2) := by decide +kernel
theorem dX11_seats_20 : decode cX11_seats 20 = .ok (.iload_n 2, 1) := by decide +kernel
theorem dX11_seats_21 : decode cX11_seats 21 = .ok (.iadd, 1) := by decide +kernel
theorem dX11_seats_22 : decode cX11_seats 22 = .ok (.iaload, 1) := by decide +kernel
theorem dX11_seats_23 : decode cX11_seats 23 = .ok (.iconst 1, 1) := by decide +kernel
theorem dX11_seats_24 : decode cX11_seats 24 = .ok (.if_icmp .ne 9, 3) := by decide +kernel
theorem dX11_seats_27 : decode cX11_seats 27 = .ok (.iload_n 1, 1) := by decide +kernel
theorem dX11_seats_28 : decode cX11_seats 28 = .ok (.iconst 1, 1) := by decide +kernel
theorem dX11_seats_29 : decode cX11_seats 29 = .ok (.iload_n 2, 1) := by decide +kernel
theorem dX11_seats_30 : decode cX11_seats 30 = .ok (.ishl, 1) := by decide +kernel
theorem dX11_seats_31 : decode cX11_seats 31 = .ok (.ior, 1) := by decide +kernel
theorem dX11_seats_32 : decode cX11_seats 32 = .ok (.istore_n 1, 1) := by decide +kernel
theorem dX11_seats_33 : decode cX11_seats 33 = .ok (.iinc 2 1, 3) := by decide +kernel
theorem dX11_seats_36 : decode cX11_seats 36 = .ok (.goto (-32), 3) := by decide +kernel
theorem dX11_seats_39 : decode cX11_seats 39 = .ok (.iload_n 1, 1) := by decide +kernel
theorem dX11_seats_40 : decode cX11_seats 40 = .ok (.ireturn, 1) := by decide +kernel
set_option maxHeartbeats 4000000 in
set_option maxRecDepth 100000 in
theorem s_X11_seats {l : Launch} {G : Gc} (qm : Nat) (qm_thrown : Int32) (qm_tape : Nat) (qm_taped : Int32) (qm_size : Int32) (qm_limit : Int32) (qm_to : Int32) (qm_from : Int32) (qm_kind : Int32) (qm_number : Int32) (qm_sign : Int32) (qm_fault : Int32) (qm_place : Int32) (qm_word : Int64) (qm_told : Int32) (qm_now : Nat) (qm_read : Nat) (qm_kept : Nat) (qm_snaps : Nat) (qm_aside : Nat) (qm_name : Nat) (qm_readName : Nat) (qm_keptName : Nat) (qm_isKept : Nat) (qm_onces : Nat) (qm_snapMany : Int32) (qm_order : Nat) (qm_ordered : Nat) (qm_orderMany : Int32) (qm_orderMost : Int32) (qm_passing : Int32) (qm_movedWho : Int32) (qm_scratched : Int32) (qm_text : Nat) (qm_texts : Int32) (qm_seed : Int32) (qm_line : Nat) (qm_written : Nat) (qm_lineMany : Int32) (qm_hasWritten : Int32) (qm_node : Nat) (qm_nodes : Int32) (qm_onesMany : Int32) (qm_within : Int32) (qm_top : Int32) (qm_now_c : Nat → Int32) (hf_qm_now_c : slI qm_now_c) (hf1_qm_now_c : trI qm_now_c) : Ci l yX11_seats cX11_seats 3 (some .int) 0 0 0 G [.ref qm] [(qm, .inr (10, [.int qm_thrown, .ref qm_tape, .int qm_taped, .int qm_size, .int qm_limit, .int qm_to, .int qm_from, .int qm_kind, .int qm_number, .int qm_sign, .int qm_fault, .int qm_place, .long qm_word, .int qm_told, .ref qm_now, .ref qm_read, .ref qm_kept, .ref qm_snaps, .ref qm_aside, .ref qm_name, .ref qm_readName, .ref qm_keptName, .ref qm_isKept, .ref qm_onces, .int qm_snapMany, .ref qm_order, .ref qm_ordered, .int qm_orderMany, .int qm_orderMost, .int qm_passing, .int qm_movedWho, .int qm_scratched, .ref qm_text, .int qm_texts, .int qm_seed, .ref qm_line, .ref qm_written, .int qm_lineMany, .int qm_hasWritten, .ref qm_node, .int qm_nodes, .int qm_onesMany, .int qm_within, .int qm_top])), (qm_now, eI G 339 qm_now_c)] (fun (r9 : Int32) (u9 : va_W) => ∃ (r_x : Int32), r9 = r_x ∧ u9 = [(qm, .inr (10, [.int qm_thrown, .ref qm_tape, .int qm_taped, .int qm_size, .int qm_limit, .int qm_to, .int qm_from, .int qm_kind, .int qm_number, .int qm_sign, .int qm_fault, .int qm_place, .long qm_word, .int qm_told, .ref qm_now, .ref qm_read, .ref qm_kept, .ref qm_snaps, .ref qm_aside, .ref qm_name, .ref qm_readName, .ref qm_keptName, .ref qm_isKept, .ref qm_onces, .int qm_snapMany, .ref qm_order, .ref qm_ordered, .int qm_orderMany, .int qm_orderMost, .int qm_passing, .int qm_movedWho, .int qm_scratched, .ref qm_text, .int qm_texts, .int qm_seed, .ref qm_line, .ref qm_written, .int qm_lineMany, .int qm_hasWritten, .ref qm_node, .int qm_nodes, .int qm_onesMany, .int qm_within, .int qm_top])), (qm_now, eI G 339 qm_now_c)]) := by
  refine Ci.ofQ (by decide) (Nat.le_of_ble_eq_true rfl) ?_
  intro p e s m below meth c ls A args Q hQ B hw hl
  have C : CallFix p m c cX11_seats 3 s args gw "LanternStateModel" := B.1
  have hl : lv_has ls 3 [(0, .ref qm)] := hl
  refine lv_iconst (v := 0) C.1 C.2.1 dX11_seats_0 (by decide) ?_
  refine lv_istore_n (lv' := [(1, .int 0), (0, .ref qm)]) C.1 C.2.1 dX11_seats_1 rfl hl (by decide) rfl (fun ls hl => ?_)
  refine lv_iconst (v := 0) C.1 C.2.1 dX11_seats_2 (by decide) ?_
  refine lv_istore_n (lv' := [(2, .int 0), (1, .int 0), (0, .ref qm)]) C.1 C.2.1 dX11_seats_3 rfl hl (by decide) rfl (fun ls hl => ?_)
  have loopJ109 : ∀ (n9 : Nat) (j107 : Int32) (j108 : Int32), (2147483647 - j107.toInt).toNat < n9 → (0 ≤ j107.toInt ∧ j107.toInt ≤ 8) → ∀ (H : Heap) (locs : List Loc) (ls : Array Slot), Wd G s A [(qm, .inr (10, [.int qm_thrown, .ref qm_tape, .int qm_taped, .int qm_size, .int qm_limit, .int qm_to, .int qm_from, .int qm_kind, .int qm_number, .int qm_sign, .int qm_fault, .int qm_place, .long qm_word, .int qm_told, .ref qm_now, .ref qm_read, .ref qm_kept, .ref qm_snaps, .ref qm_aside, .ref qm_name, .ref qm_readName, .ref qm_keptName, .ref qm_isKept, .ref qm_onces, .int qm_snapMany, .ref qm_order, .ref qm_ordered, .int qm_orderMany, .int qm_orderMost, .int qm_passing, .int qm_movedWho, .int qm_scratched, .ref qm_text, .int qm_texts, .int qm_seed, .ref qm_line, .ref qm_written, .int qm_lineMany, .int qm_hasWritten, .ref qm_node, .int qm_nodes, .int qm_onesMany, .int qm_within, .int qm_top])), (qm_now, eI G 339 qm_now_c)] H locs → lv_has ls 3 [(2, .int j107), (1, .int j108), (0, .ref qm)] → W p l e (rmD 0 0 0) s m args below meth c H locs 0 0 Q (F0 m 4 ls []) := by
    intro n9
    induction n9 with
    | zero => intro j107 j108 h9; exact absurd h9 (Nat.not_lt_zero _)
    | succ n9 ihJ109 =>
      intro j107 j108 h9J109 hJ109_0 H locs ls hw hl
      have hbj107 := i_bd j107
      refine lv_iload_n C.1 C.2.1 dX11_seats_4 rfl (lv_at hl 0 rfl) ?_
      refine lv_aload_n C.1 C.2.1 dX11_seats_5 rfl (lv_at hl 2 rfl) ?_
      refine x_get C hw iwX11 10 rfl 0 rfl 14 (by decide) kw1207 rfl dX11_seats_6 ?_
      refine lv_iconst (v := 1) C.1 C.2.1 dX11_seats_9 (by decide) ?_
      have mm124 := hf_qm_now_c 1
      refine x_iald (v := (qm_now_c 1)) C hw 1 rfl (x_in rfl) rfl dX11_seats_10 (x_genP (fun z : Int32 => z.toInt = (qm_now_c 1).toInt ∧ 0 ≤ z.toInt ∧ z.toInt ≤ 8) ⟨rfl, by omega⟩ (fun v125 hv125 => ?_))
      refine lv_icmp_ge (tgt := 39) C.1 C.2.1 dX11_seats_11 (by decide) (fun c126 => ?_) (fun c126 => ?_)
      · skip
        have c126 : v125.toInt ≤ j107.toInt := i_leT (X := v125.toInt) (Y := j107.toInt) rfl rfl c126
        refine lv_iload_n C.1 C.2.1 dX11_seats_39 rfl (lv_at hl 1 rfl) ?_
        exact x_retiQ hQ B hw ⟨j108, rfl, rfl⟩ (Nat.le_of_ble_eq_true rfl) (Nat.le_of_ble_eq_true rfl) dX11_seats_40
      · skip
        have c126 : j107.toInt < v125.toInt := i_leF (X := v125.toInt) (Y := j107.toInt) rfl rfl c126
        refine lv_aload_n C.1 C.2.1 dX11_seats_14 rfl (lv_at hl 2 rfl) ?_
        refine x_get C hw iwX11 10 rfl 0 rfl 14 (by decide) kw1207 rfl dX11_seats_15 ?_
        refine lv_bipush (v := 81) C.1 C.2.1 dX11_seats_18 (by decide) ?_
        refine lv_iload_n C.1 C.2.1 dX11_seats_20 rfl (lv_at hl 0 rfl) ?_
        refine lv_iadd C.1 C.2.1 dX11_seats_21 (x_genP (fun z : Int32 => z.toInt = 81 + j107.toInt) (i_add (X := 81) (Y := j107.toInt) rfl rfl (by omega) (by omega)) (fun v127 hv127 => ?_))
        refine x_iald (v := (qm_now_c v127.toNatClampNeg)) C hw 1 rfl (i_in (by omega) (by omega)) rfl dX11_seats_22 (x_gen (fun v128 => ?_))
        refine lv_iconst (v := 1) C.1 C.2.1 dX11_seats_23 (by decide) ?_
        have J133 : ∀ (j132 : Int32), ∀ (H : Heap) (locs : List Loc) (ls : Array Slot), Wd G s A [(qm, .inr (10, [.int qm_thrown, .ref qm_tape, .int qm_taped, .int qm_size, .int qm_limit, .int qm_to, .int qm_from, .int qm_kind, .int qm_number, .int qm_sign, .int qm_fault, .int qm_place, .long qm_word, .int qm_told, .ref qm_now, .ref qm_read, .ref qm_kept, .ref qm_snaps, .ref qm_aside, .ref qm_name, .ref qm_readName, .ref qm_keptName, .ref qm_isKept, .ref qm_onces, .int qm_snapMany, .ref qm_order, .ref qm_ordered, .int qm_orderMany, .int qm_orderMost, .int qm_passing, .int qm_movedWho, .int qm_scratched, .ref qm_text, .int qm_texts, .int qm_seed, .ref qm_line, .ref qm_written, .int qm_lineMany, .int qm_hasWritten, .ref qm_node, .int qm_nodes, .int qm_onesMany, .int qm_within, .int qm_top])), (qm_now, eI G 339 qm_now_c)] H locs → lv_has ls 3 [(2, .int j107), (1, .int j132), (0, .ref qm)] → W p l e (rmD 0 0 0) s m args below meth c H locs 0 0 Q (F0 m 33 ls []) := by
          intro j132  H locs ls hw hl
          obtain ⟨v135, ev135⟩ : ∃ z : Int32, j107 + 1 = z := ⟨_, rfl⟩
          have hv135 : v135.toInt = j107.toInt + 1 := by rw [← ev135]; exact i_add rfl rfl (by omega) (by omega)
          refine lv_iinc (v := v135) (lv' := [(2, .int v135), (1, .int j132), (0, .ref qm)]) C.1 C.2.1 dX11_seats_33 hl (k := 0) rfl ev135 (by decide) rfl (fun ls hl => ?_)
          refine lv_goto (tgt := 4) C.1 C.2.1 dX11_seats_36 (by decide) ?_
          exact ihJ109 v135 j132 (by omega) (by omega) _ _ _ hw (lv_sub hl [0, 1, 2] rfl)
        refine lv_icmp_ne (tgt := 33) C.1 C.2.1 dX11_seats_24 (by decide) (fun c129 => ?_) (fun c129 => ?_)
        · skip
          have c129 : v128.toInt ≠ 1 := i_eqF (X := v128.toInt) (Y := 1) rfl rfl c129
          have bc129_v128 := i_bd v128
          exact J133 j108   _ _ _ hw (lv_sub hl [0, 1, 2] rfl)
        · skip
          have c129 : v128.toInt = 1 := i_eqT (X := v128.toInt) (Y := 1) rfl rfl c129
          have bc129_v128 := i_bd v128
          refine lv_iload_n C.1 C.2.1 dX11_seats_27 rfl (lv_at hl 1 rfl) ?_
          refine lv_iconst (v := 1) C.1 C.2.1 dX11_seats_28 (by decide) ?_
          refine lv_iload_n C.1 C.2.1 dX11_seats_29 rfl (lv_at hl 0 rfl) ?_
          refine lv_ishl C.1 C.2.1 dX11_seats_30 (x_genP (fun z : Int32 => 1 ≤ z.toInt ∧ z.toInt ≤ 256) (i_shl1 (by omega) (by omega)) (fun v136 hv136 => ?_))
          refine lv_ior C.1 C.2.1 dX11_seats_31 (x_gen (fun v137 => ?_))
          refine lv_istore_n (lv' := [(1, .int v137), (2, .int j107), (0, .ref qm)]) C.1 C.2.1 dX11_seats_32 rfl hl (by decide) rfl (fun ls hl => ?_)
          exact J133 v137   _ _ _ hw (lv_sub hl [1, 0, 2] rfl)
  exact loopJ109 _ 0 0 (Nat.lt_succ_self _) (by decide) _ _ _ hw (lv_sub hl [0, 1, 2] rfl)
theorem dX11_sighsAlone_0 : decode cX11_sighsAlone 0 = .ok (.iload_n 2, 1) := by decide +kernel
theorem dX11_sighsAlone_1 : decode cX11_sighsAlone 1 = .ok (.aload_n 0, 1) := by decide +kernel
theorem dX11_sighsAlone_2 : decode cX11_sighsAlone 2 = .ok (.getfield 98, 3) := by decide +kernel
theorem dX11_sighsAlone_5 : decode cX11_sighsAlone 5 = .ok (.bipush 40, 2) := by decide +kernel
theorem dX11_sighsAlone_7 : decode cX11_sighsAlone 7 = .ok (.iload_n 1, 1) := by decide +kernel
theorem dX11_sighsAlone_8 : decode cX11_sighsAlone 8 = .ok (.iadd, 1) := by decide +kernel
theorem dX11_sighsAlone_9 : decode cX11_sighsAlone 9 = .ok (.iaload, 1) := by decide +kernel
theorem dX11_sighsAlone_10 : decode cX11_sighsAlone 10 = .ok (.iand, 1) := by decide +kernel
theorem dX11_sighsAlone_11 : decode cX11_sighsAlone 11 = .ok (.invokestatic 252, 3) := by decide +kernel
theorem mwX11_bits : MwS yX11_bits cX11_bits 3 (some .int) 1 := ⟨⟨kw1486, kw15, by decide +kernel⟩, kw1485⟩
theorem dX11_sighsAlone_14 : decode cX11_sighsAlone 14 = .ok (.iload_n 2, 1) := by decide +kernel
theorem dX11_sighsAlone_15 : decode cX11_sighsAlone 15 = .ok (.aload_n 0, 1) := by decide +kernel
theorem dX11_sighsAlone_16 : decode cX11_sighsAlone 16 = .ok (.getfield 98, 3) := by decide +kernel
theorem dX11_sighsAlone_19 : decode cX11_sighsAlone 19 = .ok (.bipush 48, 2) := by decide +kernel
theorem dX11_sighsAlone_21 : decode cX11_sighsAlone 21 = .ok (.iload_n 1, 1) := by decide +kernel
theorem dX11_sighsAlone_22 : decode cX11_sighsAlone 22 = .ok (.iadd, 1) := by decide +kernel
theorem dX11_sighsAlone_23 : decode cX11_sighsAlone 23 = .ok (.iaload, 1) := by decide +kernel
theorem dX11_sighsAlone_24 : decode cX11_sighsAlone 24 = .ok (.iand, 1) := by decide +kernel
theorem dX11_sighsAlone_25 : decode cX11_sighsAlone 25 = .ok (.invokestatic 252, 3) := by decide +kernel
theorem dX11_sighsAlone_28 : decode cX11_sighsAlone 28 = .ok (.isub, 1) := by decide +kernel
theorem dX11_sighsAlone_29 : decode cX11_sighsAlone 29 = .ok (.aload_n 0, 1) := by decide +kernel
theorem dX11_sighsAlone_30 : decode cX11_sighsAlone 30 = .ok (.getfield 98, 3) := by decide +kernel
theorem dX11_sighsAlone_33 : decode cX11_sighsAlone 33 = .ok (.bipush 32, 2) := by decide +kernel
theorem dX11_sighsAlone_35 : decode cX11_sighsAlone 35 = .ok (.iload_n 1, 1) := by decide +kernel
theorem dX11_sighsAlone_36 : decode cX11_sighsAlone 36 = .ok (.iadd, 1) := by decide +kernel
theorem dX11_sighsAlone_37 : decode cX11_sighsAlone 37 = .ok (.iaload, 1) := by decide +kernel
theorem dX11_sighsAlone_38 : decode cX11_sighsAlone 38 = .ok (.if_icmp .lt 7, 3) := by decide +kernel
theorem dX11_sighsAlone_45 : decode cX11_sighsAlone 45 = .ok (.iconst 0, 1) := by decide +kernel
theorem dX11_sighsAlone_46 : decode cX11_sighsAlone 46 = .ok (.ireturn, 1) := by decide +kernel
theorem dX11_sighsAlone_41 : decode cX11_sighsAlone 41 = .ok (.iconst 1, 1) := by decide +kernel
theorem dX11_sighsAlone_42 : decode cX11_sighsAlone 42 = .ok (.goto 4, 3) := by decide +kernel
set_option maxHeartbeats 4000000 in
set_option maxRecDepth 100000 in
theorem s_X11_sighsAlone {l : Launch} {G : Gc} (qm : Nat) (a1 : Int32) (a2 : Int32) (qm_thrown : Int32) (qm_tape : Nat) (qm_taped : Int32) (qm_size : Int32) (qm_limit : Int32) (qm_to : Int32) (qm_from : Int32) (qm_kind : Int32) (qm_number : Int32) (qm_sign : Int32) (qm_fault : Int32) (qm_place : Int32) (qm_word : Int64) (qm_told : Int32) (qm_now : Nat) (qm_read : Nat) (qm_kept : Nat) (qm_snaps : Nat) (qm_aside : Nat) (qm_name : Nat) (qm_readName : Nat) (qm_keptName : Nat) (qm_isKept : Nat) (qm_onces : Nat) (qm_snapMany : Int32) (qm_order : Nat) (qm_ordered : Nat) (qm_orderMany : Int32) (qm_orderMost : Int32) (qm_passing : Int32) (qm_movedWho : Int32) (qm_scratched : Int32) (qm_text : Nat) (qm_texts : Int32) (qm_seed : Int32) (qm_line : Nat) (qm_written : Nat) (qm_lineMany : Int32) (qm_hasWritten : Int32) (qm_node : Nat) (qm_nodes : Int32) (qm_onesMany : Int32) (qm_within : Int32) (qm_top : Int32) (qm_now_c : Nat → Int32) (hi_a1 : 0 ≤ a1.toInt ∧ a1.toInt ≤ 7) (hf_qm_now_c : slI qm_now_c) (hf1_qm_now_c : trI qm_now_c) : Ci l yX11_sighsAlone cX11_sighsAlone 3 (some .boolean) 1 0 0 G [.ref qm, .int a1, .int a2] [(qm, .inr (10, [.int qm_thrown, .ref qm_tape, .int qm_taped, .int qm_size, .int qm_limit, .int qm_to, .int qm_from, .int qm_kind, .int qm_number, .int qm_sign, .int qm_fault, .int qm_place, .long qm_word, .int qm_told, .ref qm_now, .ref qm_read, .ref qm_kept, .ref qm_snaps, .ref qm_aside, .ref qm_name, .ref qm_readName, .ref qm_keptName, .ref qm_isKept, .ref qm_onces, .int qm_snapMany, .ref qm_order, .ref qm_ordered, .int qm_orderMany, .int qm_orderMost, .int qm_passing, .int qm_movedWho, .int qm_scratched, .ref qm_text, .int qm_texts, .int qm_seed, .ref qm_line, .ref qm_written, .int qm_lineMany, .int qm_hasWritten, .ref qm_node, .int qm_nodes, .int qm_onesMany, .int qm_within, .int qm_top])), (qm_now, eI G 339 qm_now_c)] (fun (r9 : Int32) (u9 : va_W) => (r9 = 0 ∧ u9 = [(qm, .inr (10, [.int qm_thrown, .ref qm_tape, .int qm_taped, .int qm_size, .int qm_limit, .int qm_to, .int qm_from, .int qm_kind, .int qm_number, .int qm_sign, .int qm_fault, .int qm_place, .long qm_word, .int qm_told, .ref qm_now, .ref qm_read, .ref qm_kept, .ref qm_snaps, .ref qm_aside, .ref qm_name, .ref qm_readName, .ref qm_keptName, .ref qm_isKept, .ref qm_onces, .int qm_snapMany, .ref qm_order, .ref qm_ordered, .int qm_orderMany, .int qm_orderMost, .int qm_passing, .int qm_movedWho, .int qm_scratched, .ref qm_text, .int qm_texts, .int qm_seed, .ref qm_line, .ref qm_written, .int qm_lineMany, .int qm_hasWritten, .ref qm_node, .int qm_nodes, .int qm_onesMany, .int qm_within, .int qm_top])), (qm_now, eI G 339 qm_now_c)]) ∨ (r9 = 1 ∧ u9 = [(qm, .inr (10, [.int qm_thrown, .ref qm_tape, .int qm_taped, .int qm_size, .int qm_limit, .int qm_to, .int qm_from, .int qm_kind, .int qm_number, .int qm_sign, .int qm_fault, .int qm_place, .long qm_word, .int qm_told, .ref qm_now, .ref qm_read, .ref qm_kept, .ref qm_snaps, .ref qm_aside, .ref qm_name, .ref qm_readName, .ref qm_keptName, .ref qm_isKept, .ref qm_onces, .int qm_snapMany, .ref qm_order, .ref qm_ordered, .int qm_orderMany, .int qm_orderMost, .int qm_passing, .int qm_movedWho, .int qm_scratched, .ref qm_text, .int qm_texts, .int qm_seed, .ref qm_line, .ref qm_written, .int qm_lineMany, .int qm_hasWritten, .ref qm_node, .int qm_nodes, .int qm_onesMany, .int qm_within, .int qm_top])), (qm_now, eI G 339 qm_now_c)])) := by
  refine Ci.ofQ (by decide) (Nat.le_of_ble_eq_true rfl) ?_
  intro p e s m below meth c ls A args Q hQ B hw hl
  have C : CallFix p m c cX11_sighsAlone 3 s args gw "LanternStateModel" := B.1
  have hl : lv_has ls 3 [(0, .ref qm), (1, .int a1), (2, .int a2)] := hl
  refine lv_iload_n C.1 C.2.1 dX11_sighsAlone_0 rfl (lv_at hl 2 rfl) ?_
  refine lv_aload_n C.1 C.2.1 dX11_sighsAlone_1 rfl (lv_at hl 0 rfl) ?_
  refine x_get C hw iwX11 10 rfl 0 rfl 14 (by decide) kw1207 rfl dX11_sighsAlone_2 ?_
  refine lv_bipush (v := 40) C.1 C.2.1 dX11_sighsAlone_5 (by decide) ?_
  refine lv_iload_n C.1 C.2.1 dX11_sighsAlone_7 rfl (lv_at hl 1 rfl) ?_
  refine lv_iadd C.1 C.2.1 dX11_sighsAlone_8 (x_genP (fun z : Int32 => z.toInt = 40 + a1.toInt) (i_add (X := 40) (Y := a1.toInt) rfl rfl (by omega) (by omega)) (fun v1 hv1 => ?_))
  refine x_iald (v := (qm_now_c v1.toNatClampNeg)) C hw 1 rfl (i_in (by omega) (by omega)) rfl dX11_sighsAlone_9 (x_gen (fun v2 => ?_))
  refine lv_iand C.1 C.2.1 dX11_sighsAlone_10 (x_gen (fun v3 => ?_))
  refine x_calliS (As := [.int v3]) (rest := []) (wr := [(qm, .inr (10, [.int qm_thrown, .ref qm_tape, .int qm_taped, .int qm_size, .int qm_limit, .int qm_to, .int qm_from, .int qm_kind, .int qm_number, .int qm_sign, .int qm_fault, .int qm_place, .long qm_word, .int qm_told, .ref qm_now, .ref qm_read, .ref qm_kept, .ref qm_snaps, .ref qm_aside, .ref qm_name, .ref qm_readName, .ref qm_keptName, .ref qm_isKept, .ref qm_onces, .int qm_snapMany, .ref qm_order, .ref qm_ordered, .int qm_orderMany, .int qm_orderMost, .int qm_passing, .int qm_movedWho, .int qm_scratched, .ref qm_text, .int qm_texts, .int qm_seed, .ref qm_line, .ref qm_written, .int qm_lineMany, .int qm_hasWritten, .ref qm_node, .int qm_nodes, .int qm_onesMany, .int qm_within, .int qm_top])), (qm_now, eI G 339 qm_now_c)]) C hw (s_X11_bits v3) mwX11_bits kw1484 [] [0, 1] rfl rfl rfl rfl (by decide) rfl hl.1 rfl (Nat.le_of_ble_eq_true rfl) ⟨(Nat.le_of_ble_eq_true rfl), (Nat.le_of_ble_eq_true rfl)⟩ ⟨(Nat.le_of_ble_eq_true rfl), (Nat.le_of_ble_eq_true rfl)⟩ dX11_sighsAlone_11 (fun r4 u9 H locs hp9 hw => ?_)
  obtain ⟨x5, rfl, rfl⟩ := hp9
  have hw : Wd G s A [(qm, .inr (10, [.int qm_thrown, .ref qm_tape, .int qm_taped, .int qm_size, .int qm_limit, .int qm_to, .int qm_from, .int qm_kind, .int qm_number, .int qm_sign, .int qm_fault, .int qm_place, .long qm_word, .int qm_told, .ref qm_now, .ref qm_read, .ref qm_kept, .ref qm_snaps, .ref qm_aside, .ref qm_name, .ref qm_readName, .ref qm_keptName, .ref qm_isKept, .ref qm_onces, .int qm_snapMany, .ref qm_order, .ref qm_ordered, .int qm_orderMany, .int qm_orderMost, .int qm_passing, .int qm_movedWho, .int qm_scratched, .ref qm_text, .int qm_texts, .int qm_seed, .ref qm_line, .ref qm_written, .int qm_lineMany, .int qm_hasWritten, .ref qm_node, .int qm_nodes, .int qm_onesMany, .int qm_within, .int qm_top])), (qm_now, eI G 339 qm_now_c)] H _ := hw
  refine lv_iload_n C.1 C.2.1 dX11_sighsAlone_14 rfl (lv_at hl 2 rfl) ?_
  refine lv_aload_n C.1 C.2.1 dX11_sighsAlone_15 rfl (lv_at hl 0 rfl) ?_
  refine x_get C hw iwX11 10 rfl 0 rfl 14 (by decide) kw1207 rfl dX11_sighsAlone_16 ?_
  refine lv_bipush (v := 48) C.1 C.2.1 dX11_sighsAlone_19 (by decide) ?_
  refine lv_iload_n C.1 C.2.1 dX11_sighsAlone_21 rfl (lv_at hl 1 rfl) ?_
  refine lv_iadd C.1 C.2.1 dX11_sighsAlone_22 (x_genP (fun z : Int32 => z.toInt = 48 + a1.toInt) (i_add (X := 48) (Y := a1.toInt) rfl rfl (by omega) (by omega)) (fun v6 hv6 => ?_))
  refine x_iald (v := (qm_now_c v6.toNatClampNeg)) C hw 1 rfl (i_in (by omega) (by omega)) rfl dX11_sighsAlone_23 (x_gen (fun v7 => ?_))
  refine lv_iand C.1 C.2.1 dX11_sighsAlone_24 (x_gen (fun v8 => ?_))
  refine x_calliS (As := [.int v8]) (rest := [.int r4]) (wr := [(qm, .inr (10, [.int qm_thrown, .ref qm_tape, .int qm_taped, .int qm_size, .int qm_limit, .int qm_to, .int qm_from, .int qm_kind, .int qm_number, .int qm_sign, .int qm_fault, .int qm_place, .long qm_word, .int qm_told, .ref qm_now, .ref qm_read, .ref qm_kept, .ref qm_snaps, .ref qm_aside, .ref qm_name, .ref qm_readName, .ref qm_keptName, .ref qm_isKept, .ref qm_onces, .int qm_snapMany, .ref qm_order, .ref qm_ordered, .int qm_orderMany, .int qm_orderMost, .int qm_passing, .int qm_movedWho, .int qm_scratched, .ref qm_text, .int qm_texts, .int qm_seed, .ref qm_line, .ref qm_written, .int qm_lineMany, .int qm_hasWritten, .ref qm_node, .int qm_nodes, .int qm_onesMany, .int qm_within, .int qm_top])), (qm_now, eI G 339 qm_now_c)]) C hw (s_X11_bits v8) mwX11_bits kw1484 [] [0, 1] rfl rfl rfl rfl (by decide) rfl hl.1 rfl (Nat.le_of_ble_eq_true rfl) ⟨(Nat.le_of_ble_eq_true rfl), (Nat.le_of_ble_eq_true rfl)⟩ ⟨(Nat.le_of_ble_eq_true rfl), (Nat.le_of_ble_eq_true rfl)⟩ dX11_sighsAlone_25 (fun r9 u9 H locs hp9 hw => ?_)
  obtain ⟨x10, rfl, rfl⟩ := hp9
  have hw : Wd G s A [(qm, .inr (10, [.int qm_thrown, .ref qm_tape, .int qm_taped, .int qm_size, .int qm_limit, .int qm_to, .int qm_from, .int qm_kind, .int qm_number, .int qm_sign, .int qm_fault, .int qm_place, .long qm_word, .int qm_told, .ref qm_now, .ref qm_read, .ref qm_kept, .ref qm_snaps, .ref qm_aside, .ref qm_name, .ref qm_readName, .ref qm_keptName, .ref qm_isKept, .ref qm_onces, .int qm_snapMany, .ref qm_order, .ref qm_ordered, .int qm_orderMany, .int qm_orderMost, .int qm_passing, .int qm_movedWho, .int qm_scratched, .ref qm_text, .int qm_texts, .int qm_seed, .ref qm_line, .ref qm_written, .int qm_lineMany, .int qm_hasWritten, .ref qm_node, .int qm_nodes, .int qm_onesMany, .int qm_within, .int qm_top])), (qm_now, eI G 339 qm_now_c)] H _ := hw
  refine lv_isub C.1 C.2.1 dX11_sighsAlone_28 (x_gen (fun v11 => ?_))
  refine lv_aload_n C.1 C.2.1 dX11_sighsAlone_29 rfl (lv_at hl 0 rfl) ?_
  refine x_get C hw iwX11 10 rfl 0 rfl 14 (by decide) kw1207 rfl dX11_sighsAlone_30 ?_
  refine lv_bipush (v := 32) C.1 C.2.1 dX11_sighsAlone_33 (by decide) ?_
  refine lv_iload_n C.1 C.2.1 dX11_sighsAlone_35 rfl (lv_at hl 1 rfl) ?_
  refine lv_iadd C.1 C.2.1 dX11_sighsAlone_36 (x_genP (fun z : Int32 => z.toInt = 32 + a1.toInt) (i_add (X := 32) (Y := a1.toInt) rfl rfl (by omega) (by omega)) (fun v12 hv12 => ?_))
  refine x_iald (v := (qm_now_c v12.toNatClampNeg)) C hw 1 rfl (i_in (by omega) (by omega)) rfl dX11_sighsAlone_37 (x_gen (fun v13 => ?_))
  refine lv_icmp_lt (tgt := 45) C.1 C.2.1 dX11_sighsAlone_38 (by decide) (fun c14 => ?_) (fun c14 => ?_)
  · skip
    have c14 : v11.toInt < v13.toInt := i_ltT (X := v11.toInt) (Y := v13.toInt) rfl rfl c14
    have bc14_v11 := i_bd v11
    have bc14_v13 := i_bd v13
    refine lv_iconst (v := 0) C.1 C.2.1 dX11_sighsAlone_45 (by decide) ?_
    exact x_retzQ hQ B hw rfl (Or.inl ⟨rfl, rfl⟩) (Nat.le_of_ble_eq_true rfl) (Nat.le_of_ble_eq_true rfl) dX11_sighsAlone_46
  · skip
    have c14 : v13.toInt ≤ v11.toInt := i_ltF (X := v11.toInt) (Y := v13.toInt) rfl rfl c14
    have bc14_v11 := i_bd v11
    have bc14_v13 := i_bd v13
    refine lv_iconst (v := 1) C.1 C.2.1 dX11_sighsAlone_41 (by decide) ?_
    refine lv_goto (tgt := 46) C.1 C.2.1 dX11_sighsAlone_42 (by decide) ?_
    exact x_retzQ hQ B hw rfl (Or.inr ⟨rfl, rfl⟩) (Nat.le_of_ble_eq_true rfl) (Nat.le_of_ble_eq_true rfl) dX11_sighsAlone_46
theorem dX11_spreadFrom_0 : decode cX11_spreadFrom 0 = .ok (.iload_n 1, 1) := by decide +kernel
theorem dX11_spreadFrom_1 : decode cX11_spreadFrom 1 = .ok (.istore_n 2, 1) := by decide +kernel
theorem dX11_spreadFrom_2 : decode cX11_spreadFrom 2 = .ok (.aload_n 0, 1) := by decide +kernel
theorem dX11_spreadFrom_3 : decode cX11_spreadFrom 3 = .ok (.getfield 98, 3) := by decide +kernel
theorem dX11_spreadFrom_6 : decode cX11_spreadFrom 6 = .ok (.iconst 4, 1) := by decide +kernel
theorem dX11_spreadFrom_7 : decode cX11_spreadFrom 7 = .ok (.iaload, 1) := by decide +kernel
theorem dX11_spreadFrom_8 : decode cX11_spreadFrom 8 = .ok (.ifCond .le 7, 3) := by decide +kernel
theorem dX11_spreadFrom_15 : decode cX11_spreadFrom 15 = .ok (.iconst 0, 1) := by decide +kernel
theorem dX11_spreadFrom_16 : decode cX11_spreadFrom 16 = .ok (.istore_n 3, 1) := by decide +kernel
theorem dX11_spreadFrom_17 : decode cX11_spreadFrom 17 = .ok (.iload_n 3, 1) := by decide +kernel
theorem dX11_spreadFrom_18 : decode cX11_spreadFrom 18 = .ok (.ifCond .eq 73, 3) := by decide +kernel
theorem dX11_spreadFrom_91 : decode cX11_spreadFrom 91 = .ok (.iload_n 2, 1) := by decide +kernel
theorem dX11_spreadFrom_92 : decode cX11_spreadFrom 92 = .ok (.ireturn, 1) := by decide +kernel
theorem dX11_spreadFrom_11 : decode cX11_spreadFrom 11 = .ok (.iconst 1, 1) := by decide +kernel
theorem dX11_spreadFrom_12 : decode cX11_spreadFrom 12 = .ok (.goto 4, 3) := by decide +kernel
theorem dX11_spreadFrom_21 : decode cX11_spreadFrom 21 = .ok (.iload_n 2, 1) := by decide +kernel
theorem dX11_spreadFrom_22 : decode cX11_spreadFrom 22 = .ok (.istore 4, 2) := by decide +kernel
theorem dX11_spreadFrom_24 : decode cX11_spreadFrom 24 = .ok (.iconst 0, 1) := by decide +kernel
theorem dX11_spreadFrom_25 : decode cX11_spreadFrom 25 = .ok (.istore 5, 2) := by decide +kernel
theorem dX11_spreadFrom_27 : decode cX11_spreadFrom 27 = .ok (.iload 5, 2) := by decide +kernel
theorem dX11_spreadFrom_29 : decode cX11_spreadFrom 29 = .ok (.aload_n 0, 1) := by decide +kernel
theorem dX11_spreadFrom_30 : decode cX11_spreadFrom 30 = .ok (.getfield 98, 3) := by decide +kernel
theorem dX11_spreadFrom_33 : decode cX11_spreadFrom 33 = .ok (.iconst 1, 1) := by decide +kernel
theorem dX11_spreadFrom_34 : decode cX11_spreadFrom 34 = .ok (.iaload, 1) := by decide +kernel
theorem dX11_spreadFrom_35 : decode cX11_spreadFrom 35 = .ok (.if_icmp .ge 41, 3) := by decide +kernel
theorem dX11_spreadFrom_38 : decode cX11_spreadFrom 38 = .ok (.aload_n 0, 1) := by decide +kernel
theorem dX11_spreadFrom_39 : decode cX11_spreadFrom 39 = .ok (.getfield 98, 3) := by decide +kernel
theorem dX11_spreadFrom_42 : decode cX11_spreadFrom 42 = .ok (.bipush 56, 2) := by decide +kernel
theorem dX11_spreadFrom_44 : decode cX11_spreadFrom 44 = .ok (.iload 5, 2) := by decide +kernel
theorem dX11_spreadFrom_46 : decode cX11_spreadFrom 46 = .ok (.iadd, 1) := by decide +kernel
theorem dX11_spreadFrom_47 : decode cX11_spreadFrom 47 = .ok (.iaload, 1) := by decide +kernel
theorem dX11_spreadFrom_48 : decode cX11_spreadFrom 48 = .ok (.iload 4, 2) := by decide +kernel
theorem dX11_spreadFrom_50 : decode cX11_spreadFrom 50 = .ok (.iand, 1) := by decide +kernel
theorem dX11_spreadFrom_51 : decode cX11_spreadFrom 51 = .ok (.invokestatic 252, 3) := by decide +kernel
theorem dX11_spreadFrom_54 : decode cX11_spreadFrom 54 = .ok (.aload_n 0, 1) := by decide +kernel
theorem dX11_spreadFrom_55 : decode cX11_spreadFrom 55 = .ok (.getfield 98, 3) := by decide +kernel
theorem dX11_spreadFrom_58 : decode cX11_spreadFrom 58 = .ok (.iconst 4, 1) := by decide +kernel
theorem dX11_spreadFrom_59 : decode cX11_spreadFrom 59 = .ok (.iaload, 1) := by decide +kernel
theorem dX11_spreadFrom_60 : decode cX11_spreadFrom 60 = .ok (.if_icmp .lt 10, 3) := by decide +kernel
theorem dX11_spreadFrom_63 : decode cX11_spreadFrom 63 = .ok (.iload_n 2, 1) := by decide +kernel
theorem dX11_spreadFrom_64 : decode cX11_spreadFrom 64 = .ok (.iconst 1, 1) := by decide +kernel
theorem dX11_spreadFrom_65 : decode cX11_spreadFrom 65 = .ok (.iload 5, 2) := by decide +kernel
theorem dX11_spreadFrom_67 : decode cX11_spreadFrom 67 = .ok (.ishl, 1) := by decide +kernel
theorem dX11_spreadFrom_68 : decode cX11_spreadFrom 68 = .ok (.ior, 1) := by decide +kernel
theorem dX11_spreadFrom_69 : decode cX11_spreadFrom 69 = .ok (.istore_n 2, 1) := by decide +kernel
theorem dX11_spreadFrom_70 : decode cX11_spreadFrom 70 = .ok (.iinc 5 1, 3) := by decide +kernel
theorem dX11_spreadFrom_73 : decode cX11_spreadFrom 73 = .ok (.goto (-46), 3) := by decide +kernel
theorem dX11_spreadFrom_76 : decode cX11_spreadFrom 76 = .ok (.iload_n 2, 1) := by decide +kernel
theorem dX11_spreadFrom_77 : decode cX11_spreadFrom 77 = .ok (.iload 4, 2) := by decide +kernel
theorem dX11_spreadFrom_79 : decode cX11_spreadFrom 79 = .ok (.if_icmp .eq 7, 3) := by decide +kernel
theorem dX11_spreadFrom_86 : decode cX11_spreadFrom 86 = .ok (.iconst 0, 1) := by decide +kernel
theorem dX11_spreadFrom_87 : decode cX11_spreadFrom 87 = .ok (.istore_n 3, 1) := by decide +kernel
theorem dX11_spreadFrom_88 : decode cX11_spreadFrom 88 = .ok (.goto (-71), 3) := by decide +kernel
theorem dX11_spreadFrom_82 : decode cX11_spreadFrom 82 = .ok (.iconst 1, 1) := by decide +kernel
theorem dX11_spreadFrom_83 : decode cX11_spreadFrom 83 = .ok (.goto 4, 3) := by decide +kernel
set_option maxHeartbeats 4000000 in
set_option maxRecDepth 100000 in
theorem s_X11_spreadFrom {l : Launch} {G : Gc} (qm : Nat) (a1 : Int32) (qm_thrown : Int32) (qm_tape : Nat) (qm_taped : Int32) (qm_size : Int32) (qm_limit : Int32) (qm_to : Int32) (qm_from : Int32) (qm_kind : Int32) (qm_number : Int32) (qm_sign : Int32) (qm_fault : Int32) (qm_place : Int32) (qm_word : Int64) (qm_told : Int32) (qm_now : Nat) (qm_read : Nat) (qm_kept : Nat) (qm_snaps : Nat) (qm_aside : Nat) (qm_name : Nat) (qm_readName : Nat) (qm_keptName : Nat) (qm_isKept : Nat) (qm_onces : Nat) (qm_snapMany : Int32) (qm_order : Nat) (qm_ordered : Nat) (qm_orderMany : Int32) (qm_orderMost : Int32) (qm_passing : Int32) (qm_movedWho : Int32) (qm_scratched : Int32) (qm_text : Nat) (qm_texts : Int32) (qm_seed : Int32) (qm_line : Nat) (qm_written : Nat) (qm_lineMany : Int32) (qm_hasWritten : Int32) (qm_node : Nat) (qm_nodes : Int32) (qm_onesMany : Int32) (qm_within : Int32) (qm_top : Int32) (qm_now_c : Nat → Int32) (hf_qm_now_c : slI qm_now_c) (hf1_qm_now_c : trI qm_now_c) : Ci l yX11_spreadFrom cX11_spreadFrom 6 (some .int) 1 0 0 G [.ref qm, .int a1] [(qm, .inr (10, [.int qm_thrown, .ref qm_tape, .int qm_taped, .int qm_size, .int qm_limit, .int qm_to, .int qm_from, .int qm_kind, .int qm_number, .int qm_sign, .int qm_fault, .int qm_place, .long qm_word, .int qm_told, .ref qm_now, .ref qm_read, .ref qm_kept, .ref qm_snaps, .ref qm_aside, .ref qm_name, .ref qm_readName, .ref qm_keptName, .ref qm_isKept, .ref qm_onces, .int qm_snapMany, .ref qm_order, .ref qm_ordered, .int qm_orderMany, .int qm_orderMost, .int qm_passing, .int qm_movedWho, .int qm_scratched, .ref qm_text, .int qm_texts, .int qm_seed, .ref qm_line, .ref qm_written, .int qm_lineMany, .int qm_hasWritten, .ref qm_node, .int qm_nodes, .int qm_onesMany, .int qm_within, .int qm_top])), (qm_now, eI G 339 qm_now_c)] (fun (r9 : Int32) (u9 : va_W) => ∃ (r_x : Int32), r9 = r_x ∧ u9 = [(qm, .inr (10, [.int qm_thrown, .ref qm_tape, .int qm_taped, .int qm_size, .int qm_limit, .int qm_to, .int qm_from, .int qm_kind, .int qm_number, .int qm_sign, .int qm_fault, .int qm_place, .long qm_word, .int qm_told, .ref qm_now, .ref qm_read, .ref qm_kept, .ref qm_snaps, .ref qm_aside, .ref qm_name, .ref qm_readName, .ref qm_keptName, .ref qm_isKept, .ref qm_onces, .int qm_snapMany, .ref qm_order, .ref qm_ordered, .int qm_orderMany, .int qm_orderMost, .int qm_passing, .int qm_movedWho, .int qm_scratched, .ref qm_text, .int qm_texts, .int qm_seed, .ref qm_line, .ref qm_written, .int qm_lineMany, .int qm_hasWritten, .ref qm_node, .int qm_nodes, .int qm_onesMany, .int qm_within, .int qm_top])), (qm_now, eI G 339 qm_now_c)]) := by
  refine Ci.ofQ (by decide) (Nat.le_of_ble_eq_true rfl) ?_
  intro p e s m below meth c ls A args Q hQ B hw hl
  have C : CallFix p m c cX11_spreadFrom 6 s args gw "LanternStateModel" := B.1
  have hl : lv_has ls 6 [(0, .ref qm), (1, .int a1)] := hl
  refine lv_iload_n C.1 C.2.1 dX11_spreadFrom_0 rfl (lv_at hl 1 rfl) ?_
  refine lv_istore_n (lv' := [(2, .int a1), (0, .ref qm), (1, .int a1)]) C.1 C.2.1 dX11_spreadFrom_1 rfl hl (by decide) rfl (fun ls hl => ?_)
  refine lv_aload_n C.1 C.2.1 dX11_spreadFrom_2 rfl (lv_at hl 1 rfl) ?_
  refine x_get C hw iwX11 10 rfl 0 rfl 14 (by decide) kw1207 rfl dX11_spreadFrom_3 ?_
  refine lv_iconst (v := 4) C.1 C.2.1 dX11_spreadFrom_6 (by decide) ?_
  refine x_iald (v := (qm_now_c 4)) C hw 1 rfl (x_in rfl) rfl dX11_spreadFrom_7 (x_gen (fun v1 => ?_))
  refine lv_if_le (tgt := 15) C.1 C.2.1 dX11_spreadFrom_8 (by decide) (fun c2 => ?_) (fun c2 => ?_)
  · skip
    have c2 : v1.toInt ≤ 0 := i_leT (X := v1.toInt) (Y := 0) rfl rfl c2
    have bc2_v1 := i_bd v1
    refine lv_iconst (v := 0) C.1 C.2.1 dX11_spreadFrom_15 (by decide) ?_
    refine lv_istore_n (lv' := [(3, .int 0), (2, .int a1), (0, .ref qm), (1, .int a1)]) C.1 C.2.1 dX11_spreadFrom_16 rfl hl (by decide) rfl (fun ls hl => ?_)
    refine lv_iload_n C.1 C.2.1 dX11_spreadFrom_17 rfl (lv_at hl 0 rfl) ?_
    refine lv_if_eq (tgt := 91) C.1 C.2.1 dX11_spreadFrom_18 (by decide) (fun _ => ?_) (fun h9 => absurd (by decide) h9)
    refine lv_iload_n C.1 C.2.1 dX11_spreadFrom_91 rfl (lv_at hl 1 rfl) ?_
    exact x_retiQ hQ B hw ⟨a1, rfl, rfl⟩ (Nat.le_of_ble_eq_true rfl) (Nat.le_of_ble_eq_true rfl) dX11_spreadFrom_92
  · skip
    have c2 : 0 < v1.toInt := i_leF (X := v1.toInt) (Y := 0) rfl rfl c2
    have bc2_v1 := i_bd v1
    refine lv_iconst (v := 1) C.1 C.2.1 dX11_spreadFrom_11 (by decide) ?_
    refine lv_goto (tgt := 16) C.1 C.2.1 dX11_spreadFrom_12 (by decide) ?_
    refine lv_istore_n (lv' := [(3, .int 1), (2, .int a1), (0, .ref qm), (1, .int a1)]) C.1 C.2.1 dX11_spreadFrom_16 rfl hl (by decide) rfl (fun ls hl => ?_)
    have loopJ184 : ∀ (n9 : Nat) (j182 : Int32) (j183 : Int32), 2 * (4294967296 - j183.toUInt32.toNat) + j182.toInt.toNat < n9 → (0 ≤ j182.toInt ∧ j182.toInt ≤ 1) → ∀ (H : Heap) (locs : List Loc) (ls : Array Slot), Wd G s A [(qm, .inr (10, [.int qm_thrown, .ref qm_tape, .int qm_taped, .int qm_size, .int qm_limit, .int qm_to, .int qm_from, .int qm_kind, .int qm_number, .int qm_sign, .int qm_fault, .int qm_place, .long qm_word, .int qm_told, .ref qm_now, .ref qm_read, .ref qm_kept, .ref qm_snaps, .ref qm_aside, .ref qm_name, .ref qm_readName, .ref qm_keptName, .ref qm_isKept, .ref qm_onces, .int qm_snapMany, .ref qm_order, .ref qm_ordered, .int qm_orderMany, .int qm_orderMost, .int qm_passing, .int qm_movedWho, .int qm_scratched, .ref qm_text, .int qm_texts, .int qm_seed, .ref qm_line, .ref qm_written, .int qm_lineMany, .int qm_hasWritten, .ref qm_node, .int qm_nodes, .int qm_onesMany, .int qm_within, .int qm_top])), (qm_now, eI G 339 qm_now_c)] H locs → lv_has ls 6 [(3, .int j182), (2, .int j183), (0, .ref qm)] → W p l e (rmD 1 0 0) s m args below meth c H locs 0 0 Q (F0 m 17 ls []) := by
      intro n9
      induction n9 with
      | zero => intro j182 j183 h9; exact absurd h9 (Nat.not_lt_zero _)
      | succ n9 ihJ184 =>
        intro j182 j183 h9J184 hJ184_0 H locs ls hw hl
        refine lv_iload_n C.1 C.2.1 dX11_spreadFrom_17 rfl (lv_at hl 0 rfl) ?_
        refine lv_if_eq (tgt := 91) C.1 C.2.1 dX11_spreadFrom_18 (by decide) (fun c365 => ?_) (fun c365 => ?_)
        · skip
          have c365 : j182.toInt = 0 := i_eqT (X := j182.toInt) (Y := 0) rfl rfl c365
          refine lv_iload_n C.1 C.2.1 dX11_spreadFrom_91 rfl (lv_at hl 1 rfl) ?_
          exact x_retiQ hQ B hw ⟨j183, rfl, rfl⟩ (Nat.le_of_ble_eq_true rfl) (Nat.le_of_ble_eq_true rfl) dX11_spreadFrom_92
        · skip
          have c365 : j182.toInt ≠ 0 := i_eqF (X := j182.toInt) (Y := 0) rfl rfl c365
          refine lv_iload_n C.1 C.2.1 dX11_spreadFrom_21 rfl (lv_at hl 1 rfl) ?_
          refine lv_istore (lv' := [(4, .int j183), (3, .int j182), (2, .int j183), (0, .ref qm)]) C.1 C.2.1 dX11_spreadFrom_22 hl (by decide) rfl (fun ls hl => ?_)
          refine lv_iconst (v := 0) C.1 C.2.1 dX11_spreadFrom_24 (by decide) ?_
          refine lv_istore (lv' := [(5, .int 0), (4, .int j183), (3, .int j182), (2, .int j183), (0, .ref qm)]) C.1 C.2.1 dX11_spreadFrom_25 hl (by decide) rfl (fun ls hl => ?_)
          have loopJ507 : ∀ (n9 : Nat) (j505 : Int32) (j506 : Int32), (2147483647 - j505.toInt).toNat < n9 → (j183.toUInt32.toNat ≤ j506.toUInt32.toNat) → (0 ≤ j505.toInt ∧ j505.toInt ≤ 8) → ∀ (H : Heap) (locs : List Loc) (ls : Array Slot), Wd G s A [(qm, .inr (10, [.int qm_thrown, .ref qm_tape, .int qm_taped, .int qm_size, .int qm_limit, .int qm_to, .int qm_from, .int qm_kind, .int qm_number, .int qm_sign, .int qm_fault, .int qm_place, .long qm_word, .int qm_told, .ref qm_now, .ref qm_read, .ref qm_kept, .ref qm_snaps, .ref qm_aside, .ref qm_name, .ref qm_readName, .ref qm_keptName, .ref qm_isKept, .ref qm_onces, .int qm_snapMany, .ref qm_order, .ref qm_ordered, .int qm_orderMany, .int qm_orderMost, .int qm_passing, .int qm_movedWho, .int qm_scratched, .ref qm_text, .int qm_texts, .int qm_seed, .ref qm_line, .ref qm_written, .int qm_lineMany, .int qm_hasWritten, .ref qm_node, .int qm_nodes, .int qm_onesMany, .int qm_within, .int qm_top])), (qm_now, eI G 339 qm_now_c)] H locs → lv_has ls 6 [(5, .int j505), (4, .int j183), (2, .int j506), (0, .ref qm)] → W p l e (rmD 1 0 0) s m args below meth c H locs 0 0 Q (F0 m 27 ls []) := by
            intro n9
            induction n9 with
            | zero => intro j505 j506 h9; exact absurd h9 (Nat.not_lt_zero _)
            | succ n9 ihJ507 =>
              intro j505 j506 h9J507 hJ507_0 hJ507_1 H locs ls hw hl
              have hbj505 := i_bd j505
              refine lv_iload C.1 C.2.1 dX11_spreadFrom_27 (lv_at hl 0 rfl) ?_
              refine lv_aload_n C.1 C.2.1 dX11_spreadFrom_29 rfl (lv_at hl 3 rfl) ?_
              refine x_get C hw iwX11 10 rfl 0 rfl 14 (by decide) kw1207 rfl dX11_spreadFrom_30 ?_
              refine lv_iconst (v := 1) C.1 C.2.1 dX11_spreadFrom_33 (by decide) ?_
              have mm526 := hf_qm_now_c 1
              refine x_iald (v := (qm_now_c 1)) C hw 1 rfl (x_in rfl) rfl dX11_spreadFrom_34 (x_genP (fun z : Int32 => z.toInt = (qm_now_c 1).toInt ∧ 0 ≤ z.toInt ∧ z.toInt ≤ 8) ⟨rfl, by omega⟩ (fun v527 hv527 => ?_))
              refine lv_icmp_ge (tgt := 76) C.1 C.2.1 dX11_spreadFrom_35 (by decide) (fun c528 => ?_) (fun c528 => ?_)
              · skip
                have c528 : v527.toInt ≤ j505.toInt := i_leT (X := v527.toInt) (Y := j505.toInt) rfl rfl c528
                refine lv_iload_n C.1 C.2.1 dX11_spreadFrom_76 rfl (lv_at hl 2 rfl) ?_
                refine lv_iload C.1 C.2.1 dX11_spreadFrom_77 (lv_at hl 1 rfl) ?_
                refine lv_icmp_eq (tgt := 86) C.1 C.2.1 dX11_spreadFrom_79 (by decide) (fun c529 => ?_) (fun c529 => ?_)
                · skip
                  have c529 : j506.toInt = j183.toInt := i_eqT (X := j506.toInt) (Y := j183.toInt) rfl rfl c529
                  have bc529_j506 := i_bd j506
                  have bc529_j183 := i_bd j183
                  refine lv_iconst (v := 0) C.1 C.2.1 dX11_spreadFrom_86 (by decide) ?_
                  refine lv_istore_n (lv' := [(3, .int 0), (5, .int j505), (4, .int j183), (2, .int j506), (0, .ref qm)]) C.1 C.2.1 dX11_spreadFrom_87 rfl hl (by decide) rfl (fun ls hl => ?_)
                  refine lv_goto (tgt := 17) C.1 C.2.1 dX11_spreadFrom_88 (by decide) ?_
                  exact ihJ184 0 j506 (by have u1 := i_uB j506; have u2 := i_uB j183; have e0 : (0 : Int32).toInt = 0 := rfl; omega) (by decide) _ _ _ hw (lv_sub hl [0, 3, 4] rfl)
                · skip
                  have c529 : j506.toInt ≠ j183.toInt := i_eqF (X := j506.toInt) (Y := j183.toInt) rfl rfl c529
                  have bc529_j506 := i_bd j506
                  have bc529_j183 := i_bd j183
                  refine lv_iconst (v := 1) C.1 C.2.1 dX11_spreadFrom_82 (by decide) ?_
                  refine lv_goto (tgt := 87) C.1 C.2.1 dX11_spreadFrom_83 (by decide) ?_
                  refine lv_istore_n (lv' := [(3, .int 1), (5, .int j505), (4, .int j183), (2, .int j506), (0, .ref qm)]) C.1 C.2.1 dX11_spreadFrom_87 rfl hl (by decide) rfl (fun ls hl => ?_)
                  refine lv_goto (tgt := 17) C.1 C.2.1 dX11_spreadFrom_88 (by decide) ?_
                  exact ihJ184 1 j506 (by have u0 := i_uN (x := j183) (y := j506) (by omega) (by omega); have u1 := i_uB j506; have u2 := i_uB j183; have e1 : (1 : Int32).toInt = 1 := rfl; omega) (by decide) _ _ _ hw (lv_sub hl [0, 3, 4] rfl)
              · skip
                have c528 : j505.toInt < v527.toInt := i_leF (X := v527.toInt) (Y := j505.toInt) rfl rfl c528
                refine lv_aload_n C.1 C.2.1 dX11_spreadFrom_38 rfl (lv_at hl 3 rfl) ?_
                refine x_get C hw iwX11 10 rfl 0 rfl 14 (by decide) kw1207 rfl dX11_spreadFrom_39 ?_
                refine lv_bipush (v := 56) C.1 C.2.1 dX11_spreadFrom_42 (by decide) ?_
                refine lv_iload C.1 C.2.1 dX11_spreadFrom_44 (lv_at hl 0 rfl) ?_
                refine lv_iadd C.1 C.2.1 dX11_spreadFrom_46 (x_genP (fun z : Int32 => z.toInt = 56 + j505.toInt) (i_add (X := 56) (Y := j505.toInt) rfl rfl (by omega) (by omega)) (fun v530 hv530 => ?_))
                refine x_iald (v := (qm_now_c v530.toNatClampNeg)) C hw 1 rfl (i_in (by omega) (by omega)) rfl dX11_spreadFrom_47 (x_gen (fun v531 => ?_))
                refine lv_iload C.1 C.2.1 dX11_spreadFrom_48 (lv_at hl 1 rfl) ?_
                refine lv_iand C.1 C.2.1 dX11_spreadFrom_50 (x_gen (fun v532 => ?_))
                refine x_calliS (As := [.int v532]) (rest := []) (wr := [(qm, .inr (10, [.int qm_thrown, .ref qm_tape, .int qm_taped, .int qm_size, .int qm_limit, .int qm_to, .int qm_from, .int qm_kind, .int qm_number, .int qm_sign, .int qm_fault, .int qm_place, .long qm_word, .int qm_told, .ref qm_now, .ref qm_read, .ref qm_kept, .ref qm_snaps, .ref qm_aside, .ref qm_name, .ref qm_readName, .ref qm_keptName, .ref qm_isKept, .ref qm_onces, .int qm_snapMany, .ref qm_order, .ref qm_ordered, .int qm_orderMany, .int qm_orderMost, .int qm_passing, .int qm_movedWho, .int qm_scratched, .ref qm_text, .int qm_texts, .int qm_seed, .ref qm_line, .ref qm_written, .int qm_lineMany, .int qm_hasWritten, .ref qm_node, .int qm_nodes, .int qm_onesMany, .int qm_within, .int qm_top])), (qm_now, eI G 339 qm_now_c)]) C hw (s_X11_bits v532) mwX11_bits kw1484 [] [0, 1] rfl rfl rfl rfl (by decide) rfl hl.1 rfl (Nat.le_of_ble_eq_true rfl) ⟨(Nat.le_of_ble_eq_true rfl), (Nat.le_of_ble_eq_true rfl)⟩ ⟨(Nat.le_of_ble_eq_true rfl), (Nat.le_of_ble_eq_true rfl)⟩ dX11_spreadFrom_51 (fun r533 u9 H locs hp9 hw => ?_)
                obtain ⟨x534, rfl, rfl⟩ := hp9
                have hw : Wd G s A [(qm, .inr (10, [.int qm_thrown, .ref qm_tape, .int qm_taped, .int qm_size, .int qm_limit, .int qm_to, .int qm_from, .int qm_kind, .int qm_number, .int qm_sign, .int qm_fault, .int qm_place, .long qm_word, .int qm_told, .ref qm_now, .ref qm_read, .ref qm_kept, .ref qm_snaps, .ref qm_aside, .ref qm_name, .ref qm_readName, .ref qm_keptName, .ref qm_isKept, .ref qm_onces, .int qm_snapMany, .ref qm_order, .ref qm_ordered, .int qm_orderMany, .int qm_orderMost, .int qm_passing, .int qm_movedWho, .int qm_scratched, .ref qm_text, .int qm_texts, .int qm_seed, .ref qm_line, .ref qm_written, .int qm_lineMany, .int qm_hasWritten, .ref qm_node, .int qm_nodes, .int qm_onesMany, .int qm_within, .int qm_top])), (qm_now, eI G 339 qm_now_c)] H _ := hw
                refine lv_aload_n C.1 C.2.1 dX11_spreadFrom_54 rfl (lv_at hl 3 rfl) ?_
                refine x_get C hw iwX11 10 rfl 0 rfl 14 (by decide) kw1207 rfl dX11_spreadFrom_55 ?_
                refine lv_iconst (v := 4) C.1 C.2.1 dX11_spreadFrom_58 (by decide) ?_
                refine x_iald (v := (qm_now_c 4)) C hw 1 rfl (x_in rfl) rfl dX11_spreadFrom_59 (x_gen (fun v535 => ?_))
                have J540 : ∀ (j539 : Int32), (j183.toUInt32.toNat ≤ j539.toUInt32.toNat) → ∀ (H : Heap) (locs : List Loc) (ls : Array Slot), Wd G s A [(qm, .inr (10, [.int qm_thrown, .ref qm_tape, .int qm_taped, .int qm_size, .int qm_limit, .int qm_to, .int qm_from, .int qm_kind, .int qm_number, .int qm_sign, .int qm_fault, .int qm_place, .long qm_word, .int qm_told, .ref qm_now, .ref qm_read, .ref qm_kept, .ref qm_snaps, .ref qm_aside, .ref qm_name, .ref qm_readName, .ref qm_keptName, .ref qm_isKept, .ref qm_onces, .int qm_snapMany, .ref qm_order, .ref qm_ordered, .int qm_orderMany, .int qm_orderMost, .int qm_passing, .int qm_movedWho, .int qm_scratched, .ref qm_text, .int qm_texts, .int qm_seed, .ref qm_line, .ref qm_written, .int qm_lineMany, .int qm_hasWritten, .ref qm_node, .int qm_nodes, .int qm_onesMany, .int qm_within, .int qm_top])), (qm_now, eI G 339 qm_now_c)] H locs → lv_has ls 6 [(5, .int j505), (4, .int j183), (2, .int j539), (0, .ref qm)] → W p l e (rmD 1 0 0) s m args below meth c H locs 0 0 Q (F0 m 70 ls []) := by
                  intro j539 hJ540_0 H locs ls hw hl
                  obtain ⟨v542, ev542⟩ : ∃ z : Int32, j505 + 1 = z := ⟨_, rfl⟩
                  have hv542 : v542.toInt = j505.toInt + 1 := by rw [← ev542]; exact i_add rfl rfl (by omega) (by omega)
                  refine lv_iinc (v := v542) (lv' := [(5, .int v542), (4, .int j183), (2, .int j539), (0, .ref qm)]) C.1 C.2.1 dX11_spreadFrom_70 hl (k := 0) rfl ev542 (by decide) rfl (fun ls hl => ?_)
                  refine lv_goto (tgt := 27) C.1 C.2.1 dX11_spreadFrom_73 (by decide) ?_
                  exact ihJ507 v542 j539 (by omega) (by omega) (by omega) _ _ _ hw (lv_sub hl [0, 1, 2, 3] rfl)
                refine lv_icmp_lt (tgt := 70) C.1 C.2.1 dX11_spreadFrom_60 (by decide) (fun c536 => ?_) (fun c536 => ?_)
                · skip
                  have c536 : r533.toInt < v535.toInt := i_ltT (X := r533.toInt) (Y := v535.toInt) rfl rfl c536
                  have bc536_r533 := i_bd r533
                  have bc536_v535 := i_bd v535
                  exact J540 j506  (by omega) _ _ _ hw (lv_sub hl [0, 1, 2, 3] rfl)
                · skip
                  have c536 : v535.toInt ≤ r533.toInt := i_ltF (X := r533.toInt) (Y := v535.toInt) rfl rfl c536
                  have bc536_r533 := i_bd r533
                  have bc536_v535 := i_bd v535
                  refine lv_iload_n C.1 C.2.1 dX11_spreadFrom_63 rfl (lv_at hl 2 rfl) ?_
                  refine lv_iconst (v := 1) C.1 C.2.1 dX11_spreadFrom_64 (by decide) ?_
                  refine lv_iload C.1 C.2.1 dX11_spreadFrom_65 (lv_at hl 0 rfl) ?_
                  refine lv_ishl C.1 C.2.1 dX11_spreadFrom_67 (x_genP (fun z : Int32 => 1 ≤ z.toInt ∧ z.toInt ≤ 256) (i_shl1 (by omega) (by omega)) (fun v543 hv543 => ?_))
                  refine lv_ior C.1 C.2.1 dX11_spreadFrom_68 (x_genP (fun z : Int32 => j506.toUInt32.toNat ≤ z.toUInt32.toNat) (i_orN _ _) (fun v544 hv544 => ?_))
                  refine lv_istore_n (lv' := [(2, .int v544), (5, .int j505), (4, .int j183), (0, .ref qm)]) C.1 C.2.1 dX11_spreadFrom_69 rfl hl (by decide) rfl (fun ls hl => ?_)
                  exact J540 v544  (by omega) _ _ _ hw (lv_sub hl [1, 2, 0, 3] rfl)
          exact loopJ507 _ 0 j183 (Nat.lt_succ_self _) (by omega) (by decide) _ _ _ hw (lv_sub hl [0, 1, 3, 4] rfl)
    exact loopJ184 _ 1 a1 (Nat.lt_succ_self _) (by decide) _ _ _ hw (lv_sub hl [0, 1, 2] rfl)
theorem dX11_sighsBy_0 : decode cX11_sighsBy 0 = .ok (.iload_n 1, 1) := by decide +kernel
theorem dX11_sighsBy_1 : decode cX11_sighsBy 1 = .ok (.iconst 2, 1) := by decide +kernel
theorem dX11_sighsBy_2 : decode cX11_sighsBy 2 = .ok (.invokestatic 234, 3) := by decide +kernel
theorem dX11_sighsBy_5 : decode cX11_sighsBy 5 = .ok (.istore_n 3, 1) := by decide +kernel
theorem dX11_sighsBy_6 : decode cX11_sighsBy 6 = .ok (.iconst 0, 1) := by decide +kernel
theorem dX11_sighsBy_7 : decode cX11_sighsBy 7 = .ok (.istore 4, 2) := by decide +kernel
theorem dX11_sighsBy_9 : decode cX11_sighsBy 9 = .ok (.iconst 0, 1) := by decide +kernel
theorem dX11_sighsBy_10 : decode cX11_sighsBy 10 = .ok (.istore 5, 2) := by decide +kernel
theorem dX11_sighsBy_12 : decode cX11_sighsBy 12 = .ok (.iload 5, 2) := by decide +kernel
theorem dX11_sighsBy_14 : decode cX11_sighsBy 14 = .ok (.aload_n 0, 1) := by decide +kernel
theorem dX11_sighsBy_15 : decode cX11_sighsBy 15 = .ok (.getfield 98, 3) := by decide +kernel
theorem dX11_sighsBy_18 : decode cX11_sighsBy 18 = .ok (.iconst 1, 1) := by decide +kernel
theorem dX11_sighsBy_19 : decode cX11_sighsBy 19 = .ok (.iaload, 1) := by decide +kernel
theorem dX11_sighsBy_20 : decode cX11_sighsBy 20 = .ok (.if_icmp .ge 41, 3) := by decide +kernel
theorem dX11_sighsBy_23 : decode cX11_sighsBy 23 = .ok (.aload_n 0, 1) := by decide +kernel
theorem dX11_sighsBy_24 : decode cX11_sighsBy 24 = .ok (.iload 5, 2) := by decide +kernel
theorem dX11_sighsBy_26 : decode cX11_sighsBy 26 = .ok (.iload_n 2, 1) := by decide +kernel
theorem dX11_sighsBy_27 : decode cX11_sighsBy 27 = .ok (.iload 5, 2) := by decide +kernel
theorem dX11_sighsBy_29 : decode cX11_sighsBy 29 = .ok (.invokestatic 195, 3) := by decide +kernel
theorem dX11_sighsBy_32 : decode cX11_sighsBy 32 = .ok (.ifCond .eq 7, 3) := by decide +kernel
theorem dX11_sighsBy_39 : decode cX11_sighsBy 39 = .ok (.iload_n 1, 1) := by decide +kernel
theorem dX11_sighsBy_35 : decode cX11_sighsBy 35 = .ok (.iload_n 3, 1) := by decide +kernel
theorem dX11_sighsBy_36 : decode cX11_sighsBy 36 = .ok (.goto 4, 3) := by decide +kernel
theorem dX11_sighsBy_40 : decode cX11_sighsBy 40 = .ok (.invokevirtual 267, 3) := by decide +kernel
theorem mwX11_sighsAlone : MwV yX11_sighsAlone cX11_sighsAlone 3 (some .boolean) 2 := ⟨⟨kw1536, kw15, by decide +kernel⟩, kw1535, kS79⟩
theorem dX11_sighsBy_43 : decode cX11_sighsBy 43 = .ok (.ifCond .eq 12, 3) := by decide +kernel
theorem dX11_sighsBy_46 : decode cX11_sighsBy 46 = .ok (.iload 4, 2) := by decide +kernel
theorem dX11_sighsBy_48 : decode cX11_sighsBy 48 = .ok (.iconst 1, 1) := by decide +kernel
theorem dX11_sighsBy_49 : decode cX11_sighsBy 49 = .ok (.iload 5, 2) := by decide +kernel
theorem dX11_sighsBy_51 : decode cX11_sighsBy 51 = .ok (.ishl, 1) := by decide +kernel
theorem dX11_sighsBy_52 : decode cX11_sighsBy 52 = .ok (.ior, 1) := by decide +kernel
theorem dX11_sighsBy_53 : decode cX11_sighsBy 53 = .ok (.istore 4, 2) := by decide +kernel
theorem dX11_sighsBy_55 : decode cX11_sighsBy 55 = .ok (.iinc 5 1, 3) := by decide +kernel
theorem dX11_sighsBy_58 : decode cX11_sighsBy 58 = .ok (.goto (-46), 3) := by decide +kernel
theorem dX11_sighsBy_61 : decode cX11_sighsBy 61 = .ok (.aload_n 0, 1) := by decide +kernel
theorem dX11_sighsBy_62 : decode cX11_sighsBy 62 = .ok (.iload 4, 2) := by decide +kernel
theorem dX11_sighsBy_64 : decode cX11_sighsBy 64 = .ok (.invokevirtual 270, 3) := by decide +kernel
theorem mwX11_spreadFrom : MwV yX11_spreadFrom cX11_spreadFrom 6 (some .int) 1 := ⟨⟨kw1540, kw15, by decide +kernel⟩, kw1539, kS80⟩
theorem dX11_sighsBy_67 : decode cX11_sighsBy 67 = .ok (.ireturn, 1) := by decide +kernel
set_option maxHeartbeats 4000000 in
set_option maxRecDepth 100000 in
theorem s_X11_sighsBy {l : Launch} {G : Gc} (qm : Nat) (a1 : Int32) (a2 : Int32) (qm_thrown : Int32) (qm_tape : Nat) (qm_taped : Int32) (qm_size : Int32) (qm_limit : Int32) (qm_to : Int32) (qm_from : Int32) (qm_kind : Int32) (qm_number : Int32) (qm_sign : Int32) (qm_fault : Int32) (qm_place : Int32) (qm_word : Int64) (qm_told : Int32) (qm_now : Nat) (qm_read : Nat) (qm_kept : Nat) (qm_snaps : Nat) (qm_aside : Nat) (qm_name : Nat) (qm_readName : Nat) (qm_keptName : Nat) (qm_isKept : Nat) (qm_onces : Nat) (qm_snapMany : Int32) (qm_order : Nat) (qm_ordered : Nat) (qm_orderMany : Int32) (qm_orderMost : Int32) (qm_passing : Int32) (qm_movedWho : Int32) (qm_scratched : Int32) (qm_text : Nat) (qm_texts : Int32) (qm_seed : Int32) (qm_line : Nat) (qm_written : Nat) (qm_lineMany : Int32) (qm_hasWritten : Int32) (qm_node : Nat) (qm_nodes : Int32) (qm_onesMany : Int32) (qm_within : Int32) (qm_top : Int32) (qm_now_c : Nat → Int32) (hf_qm_now_c : slI qm_now_c) (hf1_qm_now_c : trI qm_now_c) : Ci l yX11_sighsBy cX11_sighsBy 6 (some .int) 2 0 0 G [.ref qm, .int a1, .int a2] [(qm, .inr (10, [.int qm_thrown, .ref qm_tape, .int qm_taped, .int qm_size, .int qm_limit, .int qm_to, .int qm_from, .int qm_kind, .int qm_number, .int qm_sign, .int qm_fault, .int qm_place, .long qm_word, .int qm_told, .ref qm_now, .ref qm_read, .ref qm_kept, .ref qm_snaps, .ref qm_aside, .ref qm_name, .ref qm_readName, .ref qm_keptName, .ref qm_isKept, .ref qm_onces, .int qm_snapMany, .ref qm_order, .ref qm_ordered, .int qm_orderMany, .int qm_orderMost, .int qm_passing, .int qm_movedWho, .int qm_scratched, .ref qm_text, .int qm_texts, .int qm_seed, .ref qm_line, .ref qm_written, .int qm_lineMany, .int qm_hasWritten, .ref qm_node, .int qm_nodes, .int qm_onesMany, .int qm_within, .int qm_top])), (qm_now, eI G 339 qm_now_c)] (fun (r9 : Int32) (u9 : va_W) => ∃ (r_x : Int32), r9 = r_x ∧ u9 = [(qm, .inr (10, [.int qm_thrown, .ref qm_tape, .int qm_taped, .int qm_size, .int qm_limit, .int qm_to, .int qm_from, .int qm_kind, .int qm_number, .int qm_sign, .int qm_fault, .int qm_place, .long qm_word, .int qm_told, .ref qm_now, .ref qm_read, .ref qm_kept, .ref qm_snaps, .ref qm_aside, .ref qm_name, .ref qm_readName, .ref qm_keptName, .ref qm_isKept, .ref qm_onces, .int qm_snapMany, .ref qm_order, .ref qm_ordered, .int qm_orderMany, .int qm_orderMost, .int qm_passing, .int qm_movedWho, .int qm_scratched, .ref qm_text, .int qm_texts, .int qm_seed, .ref qm_line, .ref qm_written, .int qm_lineMany, .int qm_hasWritten, .ref qm_node, .int qm_nodes, .int qm_onesMany, .int qm_within, .int qm_top])), (qm_now, eI G 339 qm_now_c)]) := by
  refine Ci.ofQ (by decide) (Nat.le_of_ble_eq_true rfl) ?_
  intro p e s m below meth c ls A args Q hQ B hw hl
  have C : CallFix p m c cX11_sighsBy 6 s args gw "LanternStateModel" := B.1
  have hl : lv_has ls 6 [(0, .ref qm), (1, .int a1), (2, .int a2)] := hl
  refine lv_iload_n C.1 C.2.1 dX11_sighsBy_0 rfl (lv_at hl 1 rfl) ?_
  refine lv_iconst (v := 2) C.1 C.2.1 dX11_sighsBy_1 (by decide) ?_
  refine x_calliS (As := [.int a1, .int 2]) (rest := []) (wr := [(qm, .inr (10, [.int qm_thrown, .ref qm_tape, .int qm_taped, .int qm_size, .int qm_limit, .int qm_to, .int qm_from, .int qm_kind, .int qm_number, .int qm_sign, .int qm_fault, .int qm_place, .long qm_word, .int qm_told, .ref qm_now, .ref qm_read, .ref qm_kept, .ref qm_snaps, .ref qm_aside, .ref qm_name, .ref qm_readName, .ref qm_keptName, .ref qm_isKept, .ref qm_onces, .int qm_snapMany, .ref qm_order, .ref qm_ordered, .int qm_orderMany, .int qm_orderMost, .int qm_passing, .int qm_movedWho, .int qm_scratched, .ref qm_text, .int qm_texts, .int qm_seed, .ref qm_line, .ref qm_written, .int qm_lineMany, .int qm_hasWritten, .ref qm_node, .int qm_nodes, .int qm_onesMany, .int qm_within, .int qm_top])), (qm_now, eI G 339 qm_now_c)]) C hw (s_X11_turned a1 2) mwX11_turned kw1491 [] [0, 1] rfl rfl rfl rfl (by decide) rfl hl.1 rfl (Nat.le_of_ble_eq_true rfl) ⟨(Nat.le_of_ble_eq_true rfl), (Nat.le_of_ble_eq_true rfl)⟩ ⟨(Nat.le_of_ble_eq_true rfl), (Nat.le_of_ble_eq_true rfl)⟩ dX11_sighsBy_2 (fun r1 u9 H locs hp9 hw => ?_)
  obtain ⟨x2, rfl, rfl⟩ := hp9
  have hw : Wd G s A [(qm, .inr (10, [.int qm_thrown, .ref qm_tape, .int qm_taped, .int qm_size, .int qm_limit, .int qm_to, .int qm_from, .int qm_kind, .int qm_number, .int qm_sign, .int qm_fault, .int qm_place, .long qm_word, .int qm_told, .ref qm_now, .ref qm_read, .ref qm_kept, .ref qm_snaps, .ref qm_aside, .ref qm_name, .ref qm_readName, .ref qm_keptName, .ref qm_isKept, .ref qm_onces, .int qm_snapMany, .ref qm_order, .ref qm_ordered, .int qm_orderMany, .int qm_orderMost, .int qm_passing, .int qm_movedWho, .int qm_scratched, .ref qm_text, .int qm_texts, .int qm_seed, .ref qm_line, .ref qm_written, .int qm_lineMany, .int qm_hasWritten, .ref qm_node, .int qm_nodes, .int qm_onesMany, .int qm_within, .int qm_top])), (qm_now, eI G 339 qm_now_c)] H _ := hw
  refine lv_istore_n (lv' := [(3, .int r1), (0, .ref qm), (1, .int a1), (2, .int a2)]) C.1 C.2.1 dX11_sighsBy_5 rfl hl (by decide) rfl (fun ls hl => ?_)
  refine lv_iconst (v := 0) C.1 C.2.1 dX11_sighsBy_6 (by decide) ?_
  refine lv_istore (lv' := [(4, .int 0), (3, .int r1), (0, .ref qm), (1, .int a1), (2, .int a2)]) C.1 C.2.1 dX11_sighsBy_7 hl (by decide) rfl (fun ls hl => ?_)
  refine lv_iconst (v := 0) C.1 C.2.1 dX11_sighsBy_9 (by decide) ?_
  refine lv_istore (lv' := [(5, .int 0), (4, .int 0), (3, .int r1), (0, .ref qm), (1, .int a1), (2, .int a2)]) C.1 C.2.1 dX11_sighsBy_10 hl (by decide) rfl (fun ls hl => ?_)
  have loopJ128 : ∀ (n9 : Nat) (j126 : Int32) (j127 : Int32), (2147483647 - j126.toInt).toNat < n9 → (0 ≤ j126.toInt ∧ j126.toInt ≤ 8) → ∀ (H : Heap) (locs : List Loc) (ls : Array Slot), Wd G s A [(qm, .inr (10, [.int qm_thrown, .ref qm_tape, .int qm_taped, .int qm_size, .int qm_limit, .int qm_to, .int qm_from, .int qm_kind, .int qm_number, .int qm_sign, .int qm_fault, .int qm_place, .long qm_word, .int qm_told, .ref qm_now, .ref qm_read, .ref qm_kept, .ref qm_snaps, .ref qm_aside, .ref qm_name, .ref qm_readName, .ref qm_keptName, .ref qm_isKept, .ref qm_onces, .int qm_snapMany, .ref qm_order, .ref qm_ordered, .int qm_orderMany, .int qm_orderMost, .int qm_passing, .int qm_movedWho, .int qm_scratched, .ref qm_text, .int qm_texts, .int qm_seed, .ref qm_line, .ref qm_written, .int qm_lineMany, .int qm_hasWritten, .ref qm_node, .int qm_nodes, .int qm_onesMany, .int qm_within, .int qm_top])), (qm_now, eI G 339 qm_now_c)] H locs → lv_has ls 6 [(5, .int j126), (4, .int j127), (3, .int r1), (0, .ref qm), (1, .int a1), (2, .int a2)] → W p l e (rmD 2 0 0) s m args below meth c H locs 0 0 Q (F0 m 12 ls []) := by
    intro n9
    induction n9 with
    | zero => intro j126 j127 h9; exact absurd h9 (Nat.not_lt_zero _)
    | succ n9 ihJ128 =>
      intro j126 j127 h9J128 hJ128_0 H locs ls hw hl
      have hbj126 := i_bd j126
      refine lv_iload C.1 C.2.1 dX11_sighsBy_12 (lv_at hl 0 rfl) ?_
      refine lv_aload_n C.1 C.2.1 dX11_sighsBy_14 rfl (lv_at hl 3 rfl) ?_
      refine x_get C hw iwX11 10 rfl 0 rfl 14 (by decide) kw1207 rfl dX11_sighsBy_15 ?_
      refine lv_iconst (v := 1) C.1 C.2.1 dX11_sighsBy_18 (by decide) ?_
      have mm145 := hf_qm_now_c 1
      refine x_iald (v := (qm_now_c 1)) C hw 1 rfl (x_in rfl) rfl dX11_sighsBy_19 (x_genP (fun z : Int32 => z.toInt = (qm_now_c 1).toInt ∧ 0 ≤ z.toInt ∧ z.toInt ≤ 8) ⟨rfl, by omega⟩ (fun v146 hv146 => ?_))
      refine lv_icmp_ge (tgt := 61) C.1 C.2.1 dX11_sighsBy_20 (by decide) (fun c147 => ?_) (fun c147 => ?_)
      · skip
        have c147 : v146.toInt ≤ j126.toInt := i_leT (X := v146.toInt) (Y := j126.toInt) rfl rfl c147
        refine lv_aload_n C.1 C.2.1 dX11_sighsBy_61 rfl (lv_at hl 3 rfl) ?_
        refine lv_iload C.1 C.2.1 dX11_sighsBy_62 (lv_at hl 1 rfl) ?_
        refine x_calliV (As := [.int j127]) (rest := []) (wr := []) C hw (s_X11_spreadFrom qm j127 qm_thrown qm_tape qm_taped qm_size qm_limit qm_to qm_from qm_kind qm_number qm_sign qm_fault qm_place qm_word qm_told qm_now qm_read qm_kept qm_snaps qm_aside qm_name qm_readName qm_keptName qm_isKept qm_onces qm_snapMany qm_order qm_ordered qm_orderMany qm_orderMost qm_passing qm_movedWho qm_scratched qm_text qm_texts qm_seed qm_line qm_written qm_lineMany qm_hasWritten qm_node qm_nodes qm_onesMany qm_within qm_top qm_now_c hf_qm_now_c hf1_qm_now_c) mwX11_spreadFrom kw1537 [0, 1] [] rfl rfl rfl rfl (by decide) 0 rfl rfl rfl rfl hl.1 rfl (Nat.le_of_ble_eq_true rfl) ⟨(Nat.le_of_ble_eq_true rfl), (Nat.le_of_ble_eq_true rfl)⟩ ⟨(Nat.le_of_ble_eq_true rfl), (Nat.le_of_ble_eq_true rfl)⟩ dX11_sighsBy_64 (fun r148 u9 H locs hp9 hw => ?_)
        obtain ⟨x149, rfl, rfl⟩ := hp9
        have hw : Wd G s A [(qm, .inr (10, [.int qm_thrown, .ref qm_tape, .int qm_taped, .int qm_size, .int qm_limit, .int qm_to, .int qm_from, .int qm_kind, .int qm_number, .int qm_sign, .int qm_fault, .int qm_place, .long qm_word, .int qm_told, .ref qm_now, .ref qm_read, .ref qm_kept, .ref qm_snaps, .ref qm_aside, .ref qm_name, .ref qm_readName, .ref qm_keptName, .ref qm_isKept, .ref qm_onces, .int qm_snapMany, .ref qm_order, .ref qm_ordered, .int qm_orderMany, .int qm_orderMost, .int qm_passing, .int qm_movedWho, .int qm_scratched, .ref qm_text, .int qm_texts, .int qm_seed, .ref qm_line, .ref qm_written, .int qm_lineMany, .int qm_hasWritten, .ref qm_node, .int qm_nodes, .int qm_onesMany, .int qm_within, .int qm_top])), (qm_now, eI G 339 qm_now_c)] H _ := hw
        exact x_retiQ hQ B hw ⟨r148, rfl, rfl⟩ (Nat.le_of_ble_eq_true rfl) (Nat.le_of_ble_eq_true rfl) dX11_sighsBy_67
      · skip
        have c147 : j126.toInt < v146.toInt := i_leF (X := v146.toInt) (Y := j126.toInt) rfl rfl c147
        refine lv_aload_n C.1 C.2.1 dX11_sighsBy_23 rfl (lv_at hl 3 rfl) ?_
        refine lv_iload C.1 C.2.1 dX11_sighsBy_24 (lv_at hl 0 rfl) ?_
        refine lv_iload_n C.1 C.2.1 dX11_sighsBy_26 rfl (lv_at hl 5 rfl) ?_
        refine lv_iload C.1 C.2.1 dX11_sighsBy_27 (lv_at hl 0 rfl) ?_
        refine x_calliS (As := [.int a2, .int j126]) (rest := [.int j126, .ref qm]) (wr := [(qm, .inr (10, [.int qm_thrown, .ref qm_tape, .int qm_taped, .int qm_size, .int qm_limit, .int qm_to, .int qm_from, .int qm_kind, .int qm_number, .int qm_sign, .int qm_fault, .int qm_place, .long qm_word, .int qm_told, .ref qm_now, .ref qm_read, .ref qm_kept, .ref qm_snaps, .ref qm_aside, .ref qm_name, .ref qm_readName, .ref qm_keptName, .ref qm_isKept, .ref qm_onces, .int qm_snapMany, .ref qm_order, .ref qm_ordered, .int qm_orderMany, .int qm_orderMost, .int qm_passing, .int qm_movedWho, .int qm_scratched, .ref qm_text, .int qm_texts, .int qm_seed, .ref qm_line, .ref qm_written, .int qm_lineMany, .int qm_hasWritten, .ref qm_node, .int qm_nodes, .int qm_onesMany, .int qm_within, .int qm_top])), (qm_now, eI G 339 qm_now_c)]) C hw (s_X11_has a2 j126) mwX11_has kw1426 [] [0, 1] rfl rfl rfl rfl (by decide) rfl hl.1 rfl (Nat.le_of_ble_eq_true rfl) ⟨(Nat.le_of_ble_eq_true rfl), (Nat.le_of_ble_eq_true rfl)⟩ ⟨(Nat.le_of_ble_eq_true rfl), (Nat.le_of_ble_eq_true rfl)⟩ dX11_sighsBy_29 (fun r150 u9 H locs hp9 hw => ?_)
        have J153 : ∀ (j152 : Int32), ∀ (H : Heap) (locs : List Loc) (ls : Array Slot), Wd G s A [(qm, .inr (10, [.int qm_thrown, .ref qm_tape, .int qm_taped, .int qm_size, .int qm_limit, .int qm_to, .int qm_from, .int qm_kind, .int qm_number, .int qm_sign, .int qm_fault, .int qm_place, .long qm_word, .int qm_told, .ref qm_now, .ref qm_read, .ref qm_kept, .ref qm_snaps, .ref qm_aside, .ref qm_name, .ref qm_readName, .ref qm_keptName, .ref qm_isKept, .ref qm_onces, .int qm_snapMany, .ref qm_order, .ref qm_ordered, .int qm_orderMany, .int qm_orderMost, .int qm_passing, .int qm_movedWho, .int qm_scratched, .ref qm_text, .int qm_texts, .int qm_seed, .ref qm_line, .ref qm_written, .int qm_lineMany, .int qm_hasWritten, .ref qm_node, .int qm_nodes, .int qm_onesMany, .int qm_within, .int qm_top])), (qm_now, eI G 339 qm_now_c)] H locs → lv_has ls 6 [(5, .int j126), (4, .int j127), (3, .int r1), (0, .ref qm), (1, .int a1), (2, .int a2)] → W p l e (rmD 2 0 0) s m args below meth c H locs 0 0 Q (F0 m 40 ls [.int j152, .int j126, .ref qm]) := by
          intro j152  H locs ls hw hl
          refine x_calliV (As := [.int j126, .int j152]) (rest := []) (wr := []) C hw (s_X11_sighsAlone qm j126 j152 qm_thrown qm_tape qm_taped qm_size qm_limit qm_to qm_from qm_kind qm_number qm_sign qm_fault qm_place qm_word qm_told qm_now qm_read qm_kept qm_snaps qm_aside qm_name qm_readName qm_keptName qm_isKept qm_onces qm_snapMany qm_order qm_ordered qm_orderMany qm_orderMost qm_passing qm_movedWho qm_scratched qm_text qm_texts qm_seed qm_line qm_written qm_lineMany qm_hasWritten qm_node qm_nodes qm_onesMany qm_within qm_top qm_now_c (by omega) hf_qm_now_c hf1_qm_now_c) mwX11_sighsAlone kw1533 [0, 1] [] rfl rfl rfl rfl (by decide) 0 rfl rfl rfl rfl hl.1 rfl (Nat.le_of_ble_eq_true rfl) ⟨(Nat.le_of_ble_eq_true rfl), (Nat.le_of_ble_eq_true rfl)⟩ ⟨(Nat.le_of_ble_eq_true rfl), (Nat.le_of_ble_eq_true rfl)⟩ dX11_sighsBy_40 (fun r160 u9 H locs hp9 hw => ?_)
          have J164 : ∀ (j163 : Int32), ∀ (H : Heap) (locs : List Loc) (ls : Array Slot), Wd G s A [(qm, .inr (10, [.int qm_thrown, .ref qm_tape, .int qm_taped, .int qm_size, .int qm_limit, .int qm_to, .int qm_from, .int qm_kind, .int qm_number, .int qm_sign, .int qm_fault, .int qm_place, .long qm_word, .int qm_told, .ref qm_now, .ref qm_read, .ref qm_kept, .ref qm_snaps, .ref qm_aside, .ref qm_name, .ref qm_readName, .ref qm_keptName, .ref qm_isKept, .ref qm_onces, .int qm_snapMany, .ref qm_order, .ref qm_ordered, .int qm_orderMany, .int qm_orderMost, .int qm_passing, .int qm_movedWho, .int qm_scratched, .ref qm_text, .int qm_texts, .int qm_seed, .ref qm_line, .ref qm_written, .int qm_lineMany, .int qm_hasWritten, .ref qm_node, .int qm_nodes, .int qm_onesMany, .int qm_within, .int qm_top])), (qm_now, eI G 339 qm_now_c)] H locs → lv_has ls 6 [(5, .int j126), (4, .int j163), (3, .int r1), (0, .ref qm), (1, .int a1), (2, .int a2)] → W p l e (rmD 2 0 0) s m args below meth c H locs 0 0 Q (F0 m 55 ls []) := by
            intro j163  H locs ls hw hl
            obtain ⟨v166, ev166⟩ : ∃ z : Int32, j126 + 1 = z := ⟨_, rfl⟩
            have hv166 : v166.toInt = j126.toInt + 1 := by rw [← ev166]; exact i_add rfl rfl (by omega) (by omega)
            refine lv_iinc (v := v166) (lv' := [(5, .int v166), (4, .int j163), (3, .int r1), (0, .ref qm), (1, .int a1), (2, .int a2)]) C.1 C.2.1 dX11_sighsBy_55 hl (k := 0) rfl ev166 (by decide) rfl (fun ls hl => ?_)
            refine lv_goto (tgt := 12) C.1 C.2.1 dX11_sighsBy_58 (by decide) ?_
            exact ihJ128 v166 j163 (by omega) (by omega) _ _ _ hw (lv_sub hl [0, 1, 2, 3, 4, 5] rfl)
          rcases hp9 with ⟨rfl, rfl⟩ | ⟨rfl, rfl⟩
          · skip
            have hw : Wd G s A [(qm, .inr (10, [.int qm_thrown, .ref qm_tape, .int qm_taped, .int qm_size, .int qm_limit, .int qm_to, .int qm_from, .int qm_kind, .int qm_number, .int qm_sign, .int qm_fault, .int qm_place, .long qm_word, .int qm_told, .ref qm_now, .ref qm_read, .ref qm_kept, .ref qm_snaps, .ref qm_aside, .ref qm_name, .ref qm_readName, .ref qm_keptName, .ref qm_isKept, .ref qm_onces, .int qm_snapMany, .ref qm_order, .ref qm_ordered, .int qm_orderMany, .int qm_orderMost, .int qm_passing, .int qm_movedWho, .int qm_scratched, .ref qm_text, .int qm_texts, .int qm_seed, .ref qm_line, .ref qm_written, .int qm_lineMany, .int qm_hasWritten, .ref qm_node, .int qm_nodes, .int qm_onesMany, .int qm_within, .int qm_top])), (qm_now, eI G 339 qm_now_c)] H _ := hw
            refine lv_if_eq (tgt := 55) C.1 C.2.1 dX11_sighsBy_43 (by decide) (fun _ => ?_) (fun h9 => absurd (by decide) h9)
            exact J164 j127   _ _ _ hw (lv_sub hl [0, 1, 2, 3, 4, 5] rfl)
          · skip
            have hw : Wd G s A [(qm, .inr (10, [.int qm_thrown, .ref qm_tape, .int qm_taped, .int qm_size, .int qm_limit, .int qm_to, .int qm_from, .int qm_kind, .int qm_number, .int qm_sign, .int qm_fault, .int qm_place, .long qm_word, .int qm_told, .ref qm_now, .ref qm_read, .ref qm_kept, .ref qm_snaps, .ref qm_aside, .ref qm_name, .ref qm_readName, .ref qm_keptName, .ref qm_isKept, .ref qm_onces, .int qm_snapMany, .ref qm_order, .ref qm_ordered, .int qm_orderMany, .int qm_orderMost, .int qm_passing, .int qm_movedWho, .int qm_scratched, .ref qm_text, .int qm_texts, .int qm_seed, .ref qm_line, .ref qm_written, .int qm_lineMany, .int qm_hasWritten, .ref qm_node, .int qm_nodes, .int qm_onesMany, .int qm_within, .int qm_top])), (qm_now, eI G 339 qm_now_c)] H _ := hw
            refine lv_if_eq (tgt := 55) C.1 C.2.1 dX11_sighsBy_43 (by decide) (fun h9 => absurd h9 (by decide)) (fun _ => ?_)
            refine lv_iload C.1 C.2.1 dX11_sighsBy_46 (lv_at hl 1 rfl) ?_
            refine lv_iconst (v := 1) C.1 C.2.1 dX11_sighsBy_48 (by decide) ?_
            refine lv_iload C.1 C.2.1 dX11_sighsBy_49 (lv_at hl 0 rfl) ?_
            refine lv_ishl C.1 C.2.1 dX11_sighsBy_51 (x_genP (fun z : Int32 => 1 ≤ z.toInt ∧ z.toInt ≤ 256) (i_shl1 (by omega) (by omega)) (fun v167 hv167 => ?_))
            refine lv_ior C.1 C.2.1 dX11_sighsBy_52 (x_gen (fun v168 => ?_))
            refine lv_istore (lv' := [(4, .int v168), (5, .int j126), (3, .int r1), (0, .ref qm), (1, .int a1), (2, .int a2)]) C.1 C.2.1 dX11_sighsBy_53 hl (by decide) rfl (fun ls hl => ?_)
            exact J164 v168   _ _ _ hw (lv_sub hl [1, 0, 2, 3, 4, 5] rfl)
        rcases hp9 with ⟨rfl, rfl⟩ | ⟨rfl, rfl, hf151⟩
        · skip
          have hw : Wd G s A [(qm, .inr (10, [.int qm_thrown, .ref qm_tape, .int qm_taped, .int qm_size, .int qm_limit, .int qm_to, .int qm_from, .int qm_kind, .int qm_number, .int qm_sign, .int qm_fault, .int qm_place, .long qm_word, .int qm_told, .ref qm_now, .ref qm_read, .ref qm_kept, .ref qm_snaps, .ref qm_aside, .ref qm_name, .ref qm_readName, .ref qm_keptName, .ref qm_isKept, .ref qm_onces, .int qm_snapMany, .ref qm_order, .ref qm_ordered, .int qm_orderMany, .int qm_orderMost, .int qm_passing, .int qm_movedWho, .int qm_scratched, .ref qm_text, .int qm_texts, .int qm_seed, .ref qm_line, .ref qm_written, .int qm_lineMany, .int qm_hasWritten, .ref qm_node, .int qm_nodes, .int qm_onesMany, .int qm_within, .int qm_top])), (qm_now, eI G 339 qm_now_c)] H _ := hw
          refine lv_if_eq (tgt := 39) C.1 C.2.1 dX11_sighsBy_32 (by decide) (fun _ => ?_) (fun h9 => absurd (by decide) h9)
          refine lv_iload_n C.1 C.2.1 dX11_sighsBy_39 rfl (lv_at hl 4 rfl) ?_
          exact J153 a1   _ _ _ hw (lv_sub hl [0, 1, 2, 3, 4, 5] rfl)
        · skip
          have hw : Wd G s A [(qm, .inr (10, [.int qm_thrown, .ref qm_tape, .int qm_taped, .int qm_size, .int qm_limit, .int qm_to, .int qm_from, .int qm_kind, .int qm_number, .int qm_sign, .int qm_fault, .int qm_place, .long qm_word, .int qm_told, .ref qm_now, .ref qm_read, .ref qm_kept, .ref qm_snaps, .ref qm_aside, .ref qm_name, .ref qm_readName, .ref qm_keptName, .ref qm_isKept, .ref qm_onces, .int qm_snapMany, .ref qm_order, .ref qm_ordered, .int qm_orderMany, .int qm_orderMost, .int qm_passing, .int qm_movedWho, .int qm_scratched, .ref qm_text, .int qm_texts, .int qm_seed, .ref qm_line, .ref qm_written, .int qm_lineMany, .int qm_hasWritten, .ref qm_node, .int qm_nodes, .int qm_onesMany, .int qm_within, .int qm_top])), (qm_now, eI G 339 qm_now_c)] H _ := hw
          refine lv_if_eq (tgt := 39) C.1 C.2.1 dX11_sighsBy_32 (by decide) (fun h9 => absurd h9 (by decide)) (fun _ => ?_)
          refine lv_iload_n C.1 C.2.1 dX11_sighsBy_35 rfl (lv_at hl 2 rfl) ?_
          refine lv_goto (tgt := 40) C.1 C.2.1 dX11_sighsBy_36 (by decide) ?_
          exact J153 r1   _ _ _ hw (lv_sub hl [0, 1, 2, 3, 4, 5] rfl)
  exact loopJ128 _ 0 0 (Nat.lt_succ_self _) (by decide) _ _ _ hw (lv_sub hl [0, 1, 2, 3, 4, 5] rfl)
theorem dX11_sighsFor_0 : decode cX11_sighsFor 0 = .ok (.aload_n 0, 1) := by decide +kernel
theorem dX11_sighsFor_1 : decode cX11_sighsFor 1 = .ok (.aload_n 0, 1) := by decide +kernel
theorem dX11_sighsFor_2 : decode cX11_sighsFor 2 = .ok (.getfield 98, 3) := by decide +kernel
theorem dX11_sighsFor_5 : decode cX11_sighsFor 5 = .ok (.bipush 69, 2) := by decide +kernel
theorem dX11_sighsFor_7 : decode cX11_sighsFor 7 = .ok (.iload_n 1, 1) := by decide +kernel
theorem dX11_sighsFor_8 : decode cX11_sighsFor 8 = .ok (.iadd, 1) := by decide +kernel
theorem dX11_sighsFor_9 : decode cX11_sighsFor 9 = .ok (.iaload, 1) := by decide +kernel
theorem dX11_sighsFor_10 : decode cX11_sighsFor 10 = .ok (.iload_n 2, 1) := by decide +kernel
theorem dX11_sighsFor_11 : decode cX11_sighsFor 11 = .ok (.invokestatic 234, 3) := by decide +kernel
theorem dX11_sighsFor_14 : decode cX11_sighsFor 14 = .ok (.aload_n 0, 1) := by decide +kernel
theorem dX11_sighsFor_15 : decode cX11_sighsFor 15 = .ok (.invokevirtual 261, 3) := by decide +kernel
theorem mwX11_seats : MwV yX11_seats cX11_seats 3 (some .int) 0 := ⟨⟨kw1516, kw15, by decide +kernel⟩, kw1515, kS75⟩
theorem dX11_sighsFor_18 : decode cX11_sighsFor 18 = .ok (.invokevirtual 273, 3) := by decide +kernel
theorem mwX11_sighsBy : MwV yX11_sighsBy cX11_sighsBy 6 (some .int) 2 := ⟨⟨kw1532, kw15, by decide +kernel⟩, kw1531, kS78⟩
theorem dX11_sighsFor_21 : decode cX11_sighsFor 21 = .ok (.ireturn, 1) := by decide +kernel
set_option maxHeartbeats 4000000 in
set_option maxRecDepth 100000 in
theorem s_X11_sighsFor {l : Launch} {G : Gc} (qm : Nat) (a1 : Int32) (a2 : Int32) (qm_thrown : Int32) (qm_tape : Nat) (qm_taped : Int32) (qm_size : Int32) (qm_limit : Int32) (qm_to : Int32) (qm_from : Int32) (qm_kind : Int32) (qm_number : Int32) (qm_sign : Int32) (qm_fault : Int32) (qm_place : Int32) (qm_word : Int64) (qm_told : Int32) (qm_now : Nat) (qm_read : Nat) (qm_kept : Nat) (qm_snaps : Nat) (qm_aside : Nat) (qm_name : Nat) (qm_readName : Nat) (qm_keptName : Nat) (qm_isKept : Nat) (qm_onces : Nat) (qm_snapMany : Int32) (qm_order : Nat) (qm_ordered : Nat) (qm_orderMany : Int32) (qm_orderMost : Int32) (qm_passing : Int32) (qm_movedWho : Int32) (qm_scratched : Int32) (qm_text : Nat) (qm_texts : Int32) (qm_seed : Int32) (qm_line : Nat) (qm_written : Nat) (qm_lineMany : Int32) (qm_hasWritten : Int32) (qm_node : Nat) (qm_nodes : Int32) (qm_onesMany : Int32) (qm_within : Int32) (qm_top : Int32) (qm_now_c : Nat → Int32) (hi_a1 : 0 ≤ a1.toInt ∧ a1.toInt ≤ 5) (hf_qm_now_c : slI qm_now_c) (hf1_qm_now_c : trI qm_now_c) : Ci l yX11_sighsFor cX11_sighsFor 3 (some .int) 3 0 0 G [.ref qm, .int a1, .int a2] [(qm, .inr (10, [.int qm_thrown, .ref qm_tape, .int qm_taped, .int qm_size, .int qm_limit, .int qm_to, .int qm_from, .int qm_kind, .int qm_number, .int qm_sign, .int qm_fault, .int qm_place, .long qm_word, .int qm_told, .ref qm_now, .ref qm_read, .ref qm_kept, .ref qm_snaps, .ref qm_aside, .ref qm_name, .ref qm_readName, .ref qm_keptName, .ref qm_isKept, .ref qm_onces, .int qm_snapMany, .ref qm_order, .ref qm_ordered, .int qm_orderMany, .int qm_orderMost, .int qm_passing, .int qm_movedWho, .int qm_scratched, .ref qm_text, .int qm_texts, .int qm_seed, .ref qm_line, .ref qm_written, .int qm_lineMany, .int qm_hasWritten, .ref qm_node, .int qm_nodes, .int qm_onesMany, .int qm_within, .int qm_top])), (qm_now, eI G 339 qm_now_c)] (fun (r9 : Int32) (u9 : va_W) => ∃ (r_x : Int32), r9 = r_x ∧ u9 = [(qm, .inr (10, [.int qm_thrown, .ref qm_tape, .int qm_taped, .int qm_size, .int qm_limit, .int qm_to, .int qm_from, .int qm_kind, .int qm_number, .int qm_sign, .int qm_fault, .int qm_place, .long qm_word, .int qm_told, .ref qm_now, .ref qm_read, .ref qm_kept, .ref qm_snaps, .ref qm_aside, .ref qm_name, .ref qm_readName, .ref qm_keptName, .ref qm_isKept, .ref qm_onces, .int qm_snapMany, .ref qm_order, .ref qm_ordered, .int qm_orderMany, .int qm_orderMost, .int qm_passing, .int qm_movedWho, .int qm_scratched, .ref qm_text, .int qm_texts, .int qm_seed, .ref qm_line, .ref qm_written, .int qm_lineMany, .int qm_hasWritten, .ref qm_node, .int qm_nodes, .int qm_onesMany, .int qm_within, .int qm_top])), (qm_now, eI G 339 qm_now_c)]) := by
  refine Ci.ofQ (by decide) (Nat.le_of_ble_eq_true rfl) ?_
  intro p e s m below meth c ls A args Q hQ B hw hl
  have C : CallFix p m c cX11_sighsFor 3 s args gw "LanternStateModel" := B.1
  have hl : lv_has ls 3 [(0, .ref qm), (1, .int a1), (2, .int a2)] := hl
  refine lv_aload_n C.1 C.2.1 dX11_sighsFor_0 rfl (lv_at hl 0 rfl) ?_
  refine lv_aload_n C.1 C.2.1 dX11_sighsFor_1 rfl (lv_at hl 0 rfl) ?_
  refine x_get C hw iwX11 10 rfl 0 rfl 14 (by decide) kw1207 rfl dX11_sighsFor_2 ?_
  refine lv_bipush (v := 69) C.1 C.2.1 dX11_sighsFor_5 (by decide) ?_
  refine lv_iload_n C.1 C.2.1 dX11_sighsFor_7 rfl (lv_at hl 1 rfl) ?_
  refine lv_iadd C.1 C.2.1 dX11_sighsFor_8 (x_genP (fun z : Int32 => z.toInt = 69 + a1.toInt) (i_add (X := 69) (Y := a1.toInt) rfl rfl (by omega) (by omega)) (fun v1 hv1 => ?_))
  refine x_iald (v := (qm_now_c v1.toNatClampNeg)) C hw 1 rfl (i_in (by omega) (by omega)) rfl dX11_sighsFor_9 (x_gen (fun v2 => ?_))
  refine lv_iload_n C.1 C.2.1 dX11_sighsFor_10 rfl (lv_at hl 2 rfl) ?_
  refine x_calliS (As := [.int v2, .int a2]) (rest := [.ref qm]) (wr := [(qm, .inr (10, [.int qm_thrown, .ref qm_tape, .int qm_taped, .int qm_size, .int qm_limit, .int qm_to, .int qm_from, .int qm_kind, .int qm_number, .int qm_sign, .int qm_fault, .int qm_place, .long qm_word, .int qm_told, .ref qm_now, .ref qm_read, .ref qm_kept, .ref qm_snaps, .ref qm_aside, .ref qm_name, .ref qm_readName, .ref qm_keptName, .ref qm_isKept, .ref qm_onces, .int qm_snapMany, .ref qm_order, .ref qm_ordered, .int qm_orderMany, .int qm_orderMost, .int qm_passing, .int qm_movedWho, .int qm_scratched, .ref qm_text, .int qm_texts, .int qm_seed, .ref qm_line, .ref qm_written, .int qm_lineMany, .int qm_hasWritten, .ref qm_node, .int qm_nodes, .int qm_onesMany, .int qm_within, .int qm_top])), (qm_now, eI G 339 qm_now_c)]) C hw (s_X11_turned v2 a2) mwX11_turned kw1491 [] [0, 1] rfl rfl rfl rfl (by decide) rfl hl.1 rfl (Nat.le_of_ble_eq_true rfl) ⟨(Nat.le_of_ble_eq_true rfl), (Nat.le_of_ble_eq_true rfl)⟩ ⟨(Nat.le_of_ble_eq_true rfl), (Nat.le_of_ble_eq_true rfl)⟩ dX11_sighsFor_11 (fun r3 u9 H locs hp9 hw => ?_)
  obtain ⟨x4, rfl, rfl⟩ := hp9
  have hw : Wd G s A [(qm, .inr (10, [.int qm_thrown, .ref qm_tape, .int qm_taped, .int qm_size, .int qm_limit, .int qm_to, .int qm_from, .int qm_kind, .int qm_number, .int qm_sign, .int qm_fault, .int qm_place, .long qm_word, .int qm_told, .ref qm_now, .ref qm_read, .ref qm_kept, .ref qm_snaps, .ref qm_aside, .ref qm_name, .ref qm_readName, .ref qm_keptName, .ref qm_isKept, .ref qm_onces, .int qm_snapMany, .ref qm_order, .ref qm_ordered, .int qm_orderMany, .int qm_orderMost, .int qm_passing, .int qm_movedWho, .int qm_scratched, .ref qm_text, .int qm_texts, .int qm_seed, .ref qm_line, .ref qm_written, .int qm_lineMany, .int qm_hasWritten, .ref qm_node, .int qm_nodes, .int qm_onesMany, .int qm_within, .int qm_top])), (qm_now, eI G 339 qm_now_c)] H _ := hw
  refine lv_aload_n C.1 C.2.1 dX11_sighsFor_14 rfl (lv_at hl 0 rfl) ?_
  refine x_calliV (As := []) (rest := [.int r3, .ref qm]) (wr := []) C hw (s_X11_seats qm qm_thrown qm_tape qm_taped qm_size qm_limit qm_to qm_from qm_kind qm_number qm_sign qm_fault qm_place qm_word qm_told qm_now qm_read qm_kept qm_snaps qm_aside qm_name qm_readName qm_keptName qm_isKept qm_onces qm_snapMany qm_order qm_ordered qm_orderMany qm_orderMost qm_passing qm_movedWho qm_scratched qm_text qm_texts qm_seed qm_line qm_written qm_lineMany qm_hasWritten qm_node qm_nodes qm_onesMany qm_within qm_top qm_now_c hf_qm_now_c hf1_qm_now_c) mwX11_seats kw1513 [0, 1] [] rfl rfl rfl rfl (by decide) 0 rfl rfl rfl rfl hl.1 rfl (Nat.le_of_ble_eq_true rfl) ⟨(Nat.le_of_ble_eq_true rfl), (Nat.le_of_ble_eq_true rfl)⟩ ⟨(Nat.le_of_ble_eq_true rfl), (Nat.le_of_ble_eq_true rfl)⟩ dX11_sighsFor_15 (fun r5 u9 H locs hp9 hw => ?_)
  obtain ⟨x6, rfl, rfl⟩ := hp9
  have hw : Wd G s A [(qm, .inr (10, [.int qm_thrown, .ref qm_tape, .int qm_taped, .int qm_size, .int qm_limit, .int qm_to, .int qm_from, .int qm_kind, .int qm_number, .int qm_sign, .int qm_fault, .int qm_place, .long qm_word, .int qm_told, .ref qm_now, .ref qm_read, .ref qm_kept, .ref qm_snaps, .ref qm_aside, .ref qm_name, .ref qm_readName, .ref qm_keptName, .ref qm_isKept, .ref qm_onces, .int qm_snapMany, .ref qm_order, .ref qm_ordered, .int qm_orderMany, .int qm_orderMost, .int qm_passing, .int qm_movedWho, .int qm_scratched, .ref qm_text, .int qm_texts, .int qm_seed, .ref qm_line, .ref qm_written, .int qm_lineMany, .int qm_hasWritten, .ref qm_node, .int qm_nodes, .int qm_onesMany, .int qm_within, .int qm_top])), (qm_now, eI G 339 qm_now_c)] H _ := hw
  refine x_calliV (As := [.int r3, .int r5]) (rest := []) (wr := []) C hw (s_X11_sighsBy qm r3 r5 qm_thrown qm_tape qm_taped qm_size qm_limit qm_to qm_from qm_kind qm_number qm_sign qm_fault qm_place qm_word qm_told qm_now qm_read qm_kept qm_snaps qm_aside qm_name qm_readName qm_keptName qm_isKept qm_onces qm_snapMany qm_order qm_ordered qm_orderMany qm_orderMost qm_passing qm_movedWho qm_scratched qm_text qm_texts qm_seed qm_line qm_written qm_lineMany qm_hasWritten qm_node qm_nodes qm_onesMany qm_within qm_top qm_now_c hf_qm_now_c hf1_qm_now_c) mwX11_sighsBy kw1529 [0, 1] [] rfl rfl rfl rfl (by decide) 0 rfl rfl rfl rfl hl.1 rfl (Nat.le_of_ble_eq_true rfl) ⟨(Nat.le_of_ble_eq_true rfl), (Nat.le_of_ble_eq_true rfl)⟩ ⟨(Nat.le_of_ble_eq_true rfl), (Nat.le_of_ble_eq_true rfl)⟩ dX11_sighsFor_18 (fun r7 u9 H locs hp9 hw => ?_)
  obtain ⟨x8, rfl, rfl⟩ := hp9
  have hw : Wd G s A [(qm, .inr (10, [.int qm_thrown, .ref qm_tape, .int qm_taped, .int qm_size, .int qm_limit, .int qm_to, .int qm_from, .int qm_kind, .int qm_number, .int qm_sign, .int qm_fault, .int qm_place, .long qm_word, .int qm_told, .ref qm_now, .ref qm_read, .ref qm_kept, .ref qm_snaps, .ref qm_aside, .ref qm_name, .ref qm_readName, .ref qm_keptName, .ref qm_isKept, .ref qm_onces, .int qm_snapMany, .ref qm_order, .ref qm_ordered, .int qm_orderMany, .int qm_orderMost, .int qm_passing, .int qm_movedWho, .int qm_scratched, .ref qm_text, .int qm_texts, .int qm_seed, .ref qm_line, .ref qm_written, .int qm_lineMany, .int qm_hasWritten, .ref qm_node, .int qm_nodes, .int qm_onesMany, .int qm_within, .int qm_top])), (qm_now, eI G 339 qm_now_c)] H _ := hw
  exact x_retiQ hQ B hw ⟨r7, rfl, rfl⟩ (Nat.le_of_ble_eq_true rfl) (Nat.le_of_ble_eq_true rfl) dX11_sighsFor_21
theorem dX11_slide_0 : decode cX11_slide 0 = .ok (.aload_n 0, 1) := by decide +kernel
theorem dX11_slide_1 : decode cX11_slide 1 = .ok (.iconst 0, 1) := by decide +kernel
theorem dX11_slide_2 : decode cX11_slide 2 = .ok (.putfield 1, 3) := by decide +kernel
theorem dX11_slide_5 : decode cX11_slide 5 = .ok (.aload_n 0, 1) := by decide +kernel
theorem dX11_slide_6 : decode cX11_slide 6 = .ok (.iload_n 1, 1) := by decide +kernel
theorem dX11_slide_7 : decode cX11_slide 7 = .ok (.invokevirtual 237, 3) := by decide +kernel
theorem mwX11_isSlide : MwV yX11_isSlide cX11_isSlide 2 (some .boolean) 1 := ⟨⟨kw1468, kw15, by decide +kernel⟩, kw1467, kS70⟩
theorem dX11_slide_10 : decode cX11_slide 10 = .ok (.ifCond .ne 8, 3) := by decide +kernel
theorem dX11_slide_13 : decode cX11_slide 13 = .ok (.aload_n 0, 1) := by decide +kernel
theorem dX11_slide_14 : decode cX11_slide 14 = .ok (.invokevirtual 240, 3) := by decide +kernel
theorem mwX11_refuse : MwV yX11_refuse cX11_refuse 1 (some .int) 0 := ⟨⟨kw1472, kw15, by decide +kernel⟩, kw1471, kS71⟩
theorem dX11_slide_17 : decode cX11_slide 17 = .ok (.ireturn, 1) := by decide +kernel
theorem dX11_slide_18 : decode cX11_slide 18 = .ok (.iload_n 2, 1) := by decide +kernel
theorem dX11_slide_19 : decode cX11_slide 19 = .ok (.tableswitch 138 0 9 #[53, 53, 53, 53, 67, 77, 87, 101, 115, 125], 53) := by decide +kernel
theorem dX11_slide_72 : decode cX11_slide 72 = .ok (.aload_n 0, 1) := by decide +kernel
theorem dX11_slide_73 : decode cX11_slide 73 = .ok (.getfield 98, 3) := by decide +kernel
theorem dX11_slide_76 : decode cX11_slide 76 = .ok (.bipush 69, 2) := by decide +kernel
theorem dX11_slide_78 : decode cX11_slide 78 = .ok (.iload_n 1, 1) := by decide +kernel
theorem dX11_slide_79 : decode cX11_slide 79 = .ok (.iadd, 1) := by decide +kernel
theorem dX11_slide_80 : decode cX11_slide 80 = .ok (.iaload, 1) := by decide +kernel
theorem dX11_slide_81 : decode cX11_slide 81 = .ok (.iload_n 2, 1) := by decide +kernel
theorem dX11_slide_82 : decode cX11_slide 82 = .ok (.invokestatic 243, 3) := by decide +kernel
theorem mwX11_rowOf : MwS yX11_rowOf cX11_rowOf 4 (some .int) 2 := ⟨⟨kw1475, kw15, by decide +kernel⟩, kw1474⟩
theorem dX11_slide_85 : decode cX11_slide 85 = .ok (.ireturn, 1) := by decide +kernel
theorem dX11_slide_86 : decode cX11_slide 86 = .ok (.aload_n 0, 1) := by decide +kernel
theorem dX11_slide_87 : decode cX11_slide 87 = .ok (.getfield 98, 3) := by decide +kernel
theorem dX11_slide_90 : decode cX11_slide 90 = .ok (.bipush 12, 2) := by decide +kernel
theorem dX11_slide_92 : decode cX11_slide 92 = .ok (.iload_n 1, 1) := by decide +kernel
theorem dX11_slide_93 : decode cX11_slide 93 = .ok (.iadd, 1) := by decide +kernel
theorem dX11_slide_94 : decode cX11_slide 94 = .ok (.iaload, 1) := by decide +kernel
theorem dX11_slide_95 : decode cX11_slide 95 = .ok (.ireturn, 1) := by decide +kernel
theorem dX11_slide_96 : decode cX11_slide 96 = .ok (.aload_n 0, 1) := by decide +kernel
theorem dX11_slide_97 : decode cX11_slide 97 = .ok (.getfield 98, 3) := by decide +kernel
theorem dX11_slide_100 : decode cX11_slide 100 = .ok (.bipush 18, 2) := by decide +kernel
theorem dX11_slide_102 : decode cX11_slide 102 = .ok (.iload_n 1, 1) := by decide +kernel
theorem dX11_slide_103 : decode cX11_slide 103 = .ok (.iadd, 1) := by decide +kernel
theorem dX11_slide_104 : decode cX11_slide 104 = .ok (.iaload, 1) := by decide +kernel
theorem dX11_slide_105 : decode cX11_slide 105 = .ok (.ireturn, 1) := by decide +kernel
theorem dX11_slide_106 : decode cX11_slide 106 = .ok (.aload_n 0, 1) := by decide +kernel
theorem dX11_slide_107 : decode cX11_slide 107 = .ok (.iload_n 1, 1) := by decide +kernel
theorem dX11_slide_108 : decode cX11_slide 108 = .ok (.invokevirtual 246, 3) := by decide +kernel
theorem mwX11_isSo : MwV yX11_isSo cX11_isSo 2 (some .boolean) 1 := ⟨⟨kw1479, kw15, by decide +kernel⟩, kw1478, kS72⟩
theorem dX11_slide_111 : decode cX11_slide 111 = .ok (.ifCond .eq 7, 3) := by decide +kernel
theorem dX11_slide_118 : decode cX11_slide 118 = .ok (.iconst 0, 1) := by decide +kernel
theorem dX11_slide_119 : decode cX11_slide 119 = .ok (.ireturn, 1) := by decide +kernel
theorem dX11_slide_114 : decode cX11_slide 114 = .ok (.iconst 1, 1) := by decide +kernel
theorem dX11_slide_115 : decode cX11_slide 115 = .ok (.goto 4, 3) := by decide +kernel
theorem dX11_slide_120 : decode cX11_slide 120 = .ok (.aload_n 0, 1) := by decide +kernel
theorem dX11_slide_121 : decode cX11_slide 121 = .ok (.iload_n 1, 1) := by decide +kernel
theorem dX11_slide_122 : decode cX11_slide 122 = .ok (.invokevirtual 249, 3) := by decide +kernel
theorem mwX11_isCracked : MwV yX11_isCracked cX11_isCracked 2 (some .boolean) 1 := ⟨⟨kw1483, kw15, by decide +kernel⟩, kw1482, kS73⟩
theorem dX11_slide_125 : decode cX11_slide 125 = .ok (.ifCond .eq 7, 3) := by decide +kernel
theorem dX11_slide_132 : decode cX11_slide 132 = .ok (.iconst 0, 1) := by decide +kernel
theorem dX11_slide_133 : decode cX11_slide 133 = .ok (.ireturn, 1) := by decide +kernel
theorem dX11_slide_128 : decode cX11_slide 128 = .ok (.iconst 1, 1) := by decide +kernel
theorem dX11_slide_129 : decode cX11_slide 129 = .ok (.goto 4, 3) := by decide +kernel
theorem dX11_slide_134 : decode cX11_slide 134 = .ok (.aload_n 0, 1) := by decide +kernel
theorem dX11_slide_135 : decode cX11_slide 135 = .ok (.getfield 98, 3) := by decide +kernel
theorem dX11_slide_138 : decode cX11_slide 138 = .ok (.bipush 75, 2) := by decide +kernel
theorem dX11_slide_140 : decode cX11_slide 140 = .ok (.iload_n 1, 1) := by decide +kernel
theorem dX11_slide_141 : decode cX11_slide 141 = .ok (.iadd, 1) := by decide +kernel
theorem dX11_slide_142 : decode cX11_slide 142 = .ok (.iaload, 1) := by decide +kernel
theorem dX11_slide_143 : decode cX11_slide 143 = .ok (.ireturn, 1) := by decide +kernel
theorem dX11_slide_144 : decode cX11_slide 144 = .ok (.aload_n 0, 1) := by decide +kernel
theorem dX11_slide_145 : decode cX11_slide 145 = .ok (.getfield 98, 3) := by decide +kernel
theorem dX11_slide_148 : decode cX11_slide 148 = .ok (.bipush 69, 2) := by decide +kernel
theorem dX11_slide_150 : decode cX11_slide 150 = .ok (.iload_n 1, 1) := by decide +kernel
theorem dX11_slide_151 : decode cX11_slide 151 = .ok (.iadd, 1) := by decide +kernel
theorem dX11_slide_152 : decode cX11_slide 152 = .ok (.iaload, 1) := by decide +kernel
theorem dX11_slide_153 : decode cX11_slide 153 = .ok (.invokestatic 252, 3) := by decide +kernel
theorem dX11_slide_156 : decode cX11_slide 156 = .ok (.ireturn, 1) := by decide +kernel
theorem dX11_slide_157 : decode cX11_slide 157 = .ok (.aload_n 0, 1) := by decide +kernel
theorem dX11_slide_158 : decode cX11_slide 158 = .ok (.invokevirtual 240, 3) := by decide +kernel
theorem dX11_slide_161 : decode cX11_slide 161 = .ok (.ireturn, 1) := by decide +kernel
set_option maxHeartbeats 4000000 in
set_option maxRecDepth 100000 in
theorem s_X11_slide {l : Launch} {G : Gc} (qm : Nat) (a1 : Int32) (a2 : Int32) (qm_thrown : Int32) (qm_tape : Nat) (qm_taped : Int32) (qm_size : Int32) (qm_limit : Int32) (qm_to : Int32) (qm_from : Int32) (qm_kind : Int32) (qm_number : Int32) (qm_sign : Int32) (qm_fault : Int32) (qm_place : Int32) (qm_word : Int64) (qm_told : Int32) (qm_now : Nat) (qm_read : Nat) (qm_kept : Nat) (qm_snaps : Nat) (qm_aside : Nat) (qm_name : Nat) (qm_readName : Nat) (qm_keptName : Nat) (qm_isKept : Nat) (qm_onces : Nat) (qm_snapMany : Int32) (qm_order : Nat) (qm_ordered : Nat) (qm_orderMany : Int32) (qm_orderMost : Int32) (qm_passing : Int32) (qm_movedWho : Int32) (qm_scratched : Int32) (qm_text : Nat) (qm_texts : Int32) (qm_seed : Int32) (qm_line : Nat) (qm_written : Nat) (qm_lineMany : Int32) (qm_hasWritten : Int32) (qm_node : Nat) (qm_nodes : Int32) (qm_onesMany : Int32) (qm_within : Int32) (qm_top : Int32) (qm_now_c : Nat → Int32) (hf_qm_now_c : slI qm_now_c) (hf1_qm_now_c : trI qm_now_c) : Ci l yX11_slide cX11_slide 3 (some .int) 2 0 0 G [.ref qm, .int a1, .int a2] [(qm, .inr (10, [.int qm_thrown, .ref qm_tape, .int qm_taped, .int qm_size, .int qm_limit, .int qm_to, .int qm_from, .int qm_kind, .int qm_number, .int qm_sign, .int qm_fault, .int qm_place, .long qm_word, .int qm_told, .ref qm_now, .ref qm_read, .ref qm_kept, .ref qm_snaps, .ref qm_aside, .ref qm_name, .ref qm_readName, .ref qm_keptName, .ref qm_isKept, .ref qm_onces, .int qm_snapMany, .ref qm_order, .ref qm_ordered, .int qm_orderMany, .int qm_orderMost, .int qm_passing, .int qm_movedWho, .int qm_scratched, .ref qm_text, .int qm_texts, .int qm_seed, .ref qm_line, .ref qm_written, .int qm_lineMany, .int qm_hasWritten, .ref qm_node, .int qm_nodes, .int qm_onesMany, .int qm_within, .int qm_top])), (qm_now, eI G 339 qm_now_c)] (fun (r9 : Int32) (u9 : va_W) => ∃ (x0_qm_thrown : Int32) (r_x : Int32), r9 = r_x ∧ u9 = [(qm, .inr (10, [.int x0_qm_thrown, .ref qm_tape, .int qm_taped, .int qm_size, .int qm_limit, .int qm_to, .int qm_from, .int qm_kind, .int qm_number, .int qm_sign, .int qm_fault, .int qm_place, .long qm_word, .int qm_told, .ref qm_now, .ref qm_read, .ref qm_kept, .ref qm_snaps, .ref qm_aside, .ref qm_name, .ref qm_readName, .ref qm_keptName, .ref qm_isKept, .ref qm_onces, .int qm_snapMany, .ref qm_order, .ref qm_ordered, .int qm_orderMany, .int qm_orderMost, .int qm_passing, .int qm_movedWho, .int qm_scratched, .ref qm_text, .int qm_texts, .int qm_seed, .ref qm_line, .ref qm_written, .int qm_lineMany, .int qm_hasWritten, .ref qm_node, .int qm_nodes, .int qm_onesMany, .int qm_within, .int qm_top])), (qm_now, eI G 339 qm_now_c)] ∧ (0 ≤ x0_qm_thrown.toInt ∧ x0_qm_thrown.toInt ≤ 1)) := by
  refine Ci.ofQ (by decide) (Nat.le_of_ble_eq_true rfl) ?_
  intro p e s m below meth c ls A args Q hQ B hw hl
  have C : CallFix p m c cX11_slide 3 s args gw "LanternStateModel" := B.1
  have hl : lv_has ls 3 [(0, .ref qm), (1, .int a1), (2, .int a2)] := hl
  refine lv_aload_n C.1 C.2.1 dX11_slide_0 rfl (lv_at hl 0 rfl) ?_
  refine lv_iconst (v := 0) C.1 C.2.1 dX11_slide_1 (by decide) ?_
  refine x_put (w' := [(qm, .inr (10, [.int 0, .ref qm_tape, .int qm_taped, .int qm_size, .int qm_limit, .int qm_to, .int qm_from, .int qm_kind, .int qm_number, .int qm_sign, .int qm_fault, .int qm_place, .long qm_word, .int qm_told, .ref qm_now, .ref qm_read, .ref qm_kept, .ref qm_snaps, .ref qm_aside, .ref qm_name, .ref qm_readName, .ref qm_keptName, .ref qm_isKept, .ref qm_onces, .int qm_snapMany, .ref qm_order, .ref qm_ordered, .int qm_orderMany, .int qm_orderMost, .int qm_passing, .int qm_movedWho, .int qm_scratched, .ref qm_text, .int qm_texts, .int qm_seed, .ref qm_line, .ref qm_written, .int qm_lineMany, .int qm_hasWritten, .ref qm_node, .int qm_nodes, .int qm_onesMany, .int qm_within, .int qm_top])), (qm_now, eI G 339 qm_now_c)]) C hw iwX11 tyX11_ok nmX11 10 rfl 0 rfl 0 (by decide) kw1193 rfl rfl rfl (Nat.le_of_ble_eq_true rfl) rfl dX11_slide_2 (fun H locs hw => ?_)
  refine lv_aload_n C.1 C.2.1 dX11_slide_5 rfl (lv_at hl 0 rfl) ?_
  refine lv_iload_n C.1 C.2.1 dX11_slide_6 rfl (lv_at hl 1 rfl) ?_
  refine x_calliV (As := [.int a1]) (rest := []) (wr := []) C hw (s_X11_isSlide qm a1 0 qm_tape qm_taped qm_size qm_limit qm_to qm_from qm_kind qm_number qm_sign qm_fault qm_place qm_word qm_told qm_now qm_read qm_kept qm_snaps qm_aside qm_name qm_readName qm_keptName qm_isKept qm_onces qm_snapMany qm_order qm_ordered qm_orderMany qm_orderMost qm_passing qm_movedWho qm_scratched qm_text qm_texts qm_seed qm_line qm_written qm_lineMany qm_hasWritten qm_node qm_nodes qm_onesMany qm_within qm_top qm_now_c hf_qm_now_c hf1_qm_now_c) mwX11_isSlide kw1465 [0, 1] [] rfl rfl rfl rfl (by decide) 0 rfl rfl rfl rfl hl.1 rfl (Nat.le_of_ble_eq_true rfl) ⟨(Nat.le_of_ble_eq_true rfl), (Nat.le_of_ble_eq_true rfl)⟩ ⟨(Nat.le_of_ble_eq_true rfl), (Nat.le_of_ble_eq_true rfl)⟩ dX11_slide_7 (fun r1 u9 H locs hp9 hw => ?_)
  rcases hp9 with ⟨rfl, rfl⟩ | ⟨rfl, rfl, hf2, hf3⟩
  · skip
    have hw : Wd G s A [(qm, .inr (10, [.int 0, .ref qm_tape, .int qm_taped, .int qm_size, .int qm_limit, .int qm_to, .int qm_from, .int qm_kind, .int qm_number, .int qm_sign, .int qm_fault, .int qm_place, .long qm_word, .int qm_told, .ref qm_now, .ref qm_read, .ref qm_kept, .ref qm_snaps, .ref qm_aside, .ref qm_name, .ref qm_readName, .ref qm_keptName, .ref qm_isKept, .ref qm_onces, .int qm_snapMany, .ref qm_order, .ref qm_ordered, .int qm_orderMany, .int qm_orderMost, .int qm_passing, .int qm_movedWho, .int qm_scratched, .ref qm_text, .int qm_texts, .int qm_seed, .ref qm_line, .ref qm_written, .int qm_lineMany, .int qm_hasWritten, .ref qm_node, .int qm_nodes, .int qm_onesMany, .int qm_within, .int qm_top])), (qm_now, eI G 339 qm_now_c)] H _ := hw
    refine lv_if_ne (tgt := 18) C.1 C.2.1 dX11_slide_10 (by decide) (fun h9 => absurd (by decide) h9) (fun _ => ?_)
    refine lv_aload_n C.1 C.2.1 dX11_slide_13 rfl (lv_at hl 0 rfl) ?_
    refine x_calliV (As := []) (rest := []) (wr := [(qm_now, eI G 339 qm_now_c)]) C hw (s_X11_refuse qm 0 qm_tape qm_taped qm_size qm_limit qm_to qm_from qm_kind qm_number qm_sign qm_fault qm_place qm_word qm_told qm_now qm_read qm_kept qm_snaps qm_aside qm_name qm_readName qm_keptName qm_isKept qm_onces qm_snapMany qm_order qm_ordered qm_orderMany qm_orderMost qm_passing qm_movedWho qm_scratched qm_text qm_texts qm_seed qm_line qm_written qm_lineMany qm_hasWritten qm_node qm_nodes qm_onesMany qm_within qm_top) mwX11_refuse kw1469 [0] [1] rfl rfl rfl rfl (by decide) 0 rfl rfl rfl rfl hl.1 rfl (Nat.le_of_ble_eq_true rfl) ⟨(Nat.le_of_ble_eq_true rfl), (Nat.le_of_ble_eq_true rfl)⟩ ⟨(Nat.le_of_ble_eq_true rfl), (Nat.le_of_ble_eq_true rfl)⟩ dX11_slide_14 (fun r4 u9 H locs hp9 hw => ?_)
    obtain ⟨rfl, rfl⟩ := hp9
    have hw : Wd G s A [(qm_now, eI G 339 qm_now_c), (qm, .inr (10, [.int 1, .ref qm_tape, .int qm_taped, .int qm_size, .int qm_limit, .int qm_to, .int qm_from, .int qm_kind, .int qm_number, .int qm_sign, .int qm_fault, .int qm_place, .long qm_word, .int qm_told, .ref qm_now, .ref qm_read, .ref qm_kept, .ref qm_snaps, .ref qm_aside, .ref qm_name, .ref qm_readName, .ref qm_keptName, .ref qm_isKept, .ref qm_onces, .int qm_snapMany, .ref qm_order, .ref qm_ordered, .int qm_orderMany, .int qm_orderMost, .int qm_passing, .int qm_movedWho, .int qm_scratched, .ref qm_text, .int qm_texts, .int qm_seed, .ref qm_line, .ref qm_written, .int qm_lineMany, .int qm_hasWritten, .ref qm_node, .int qm_nodes, .int qm_onesMany, .int qm_within, .int qm_top]))] H _ := hw
    have hw := hw.sub (w' := [(qm, .inr (10, [.int 1, .ref qm_tape, .int qm_taped, .int qm_size, .int qm_limit, .int qm_to, .int qm_from, .int qm_kind, .int qm_number, .int qm_sign, .int qm_fault, .int qm_place, .long qm_word, .int qm_told, .ref qm_now, .ref qm_read, .ref qm_kept, .ref qm_snaps, .ref qm_aside, .ref qm_name, .ref qm_readName, .ref qm_keptName, .ref qm_isKept, .ref qm_onces, .int qm_snapMany, .ref qm_order, .ref qm_ordered, .int qm_orderMany, .int qm_orderMost, .int qm_passing, .int qm_movedWho, .int qm_scratched, .ref qm_text, .int qm_texts, .int qm_seed, .ref qm_line, .ref qm_written, .int qm_lineMany, .int qm_hasWritten, .ref qm_node, .int qm_nodes, .int qm_onesMany, .int qm_within, .int qm_top])), (qm_now, eI G 339 qm_now_c)]) [1, 0] rfl rfl
    exact x_retiQ hQ B hw ⟨1, 0, rfl, rfl, (by decide)⟩ (Nat.le_of_ble_eq_true rfl) (Nat.le_of_ble_eq_true rfl) dX11_slide_17
  · skip
    have hw : Wd G s A [(qm, .inr (10, [.int 0, .ref qm_tape, .int qm_taped, .int qm_size, .int qm_limit, .int qm_to, .int qm_from, .int qm_kind, .int qm_number, .int qm_sign, .int qm_fault, .int qm_place, .long qm_word, .int qm_told, .ref qm_now, .ref qm_read, .ref qm_kept, .ref qm_snaps, .ref qm_aside, .ref qm_name, .ref qm_readName, .ref qm_keptName, .ref qm_isKept, .ref qm_onces, .int qm_snapMany, .ref qm_order, .ref qm_ordered, .int qm_orderMany, .int qm_orderMost, .int qm_passing, .int qm_movedWho, .int qm_scratched, .ref qm_text, .int qm_texts, .int qm_seed, .ref qm_line, .ref qm_written, .int qm_lineMany, .int qm_hasWritten, .ref qm_node, .int qm_nodes, .int qm_onesMany, .int qm_within, .int qm_top])), (qm_now, eI G 339 qm_now_c)] H _ := hw
    refine lv_if_ne (tgt := 18) C.1 C.2.1 dX11_slide_10 (by decide) (fun _ => ?_) (fun h9 => absurd h9 (by decide))
    refine lv_iload_n C.1 C.2.1 dX11_slide_18 rfl (lv_at hl 2 rfl) ?_
    have k5 : a2.toInt = 0 ∨ a2.toInt = 1 ∨ a2.toInt = 2 ∨ a2.toInt = 3 ∨ a2.toInt = 4 ∨ a2.toInt = 5 ∨ a2.toInt = 6 ∨ a2.toInt = 7 ∨ a2.toInt = 8 ∨ a2.toInt = 9 ∨ (a2.toInt ≠ 0 ∧ a2.toInt ≠ 1 ∧ a2.toInt ≠ 2 ∧ a2.toInt ≠ 3 ∧ a2.toInt ≠ 4 ∧ a2.toInt ≠ 5 ∧ a2.toInt ≠ 6 ∧ a2.toInt ≠ 7 ∧ a2.toInt ≠ 8 ∧ a2.toInt ≠ 9) := by omega
    rcases k5 with k5 | k5 | k5 | k5 | k5 | k5 | k5 | k5 | k5 | k5 | k5
    · skip
      have k5 : a2 = 0 := Int32.toInt_inj.mp (by rw [k5]; rfl)
      refine x_topi (z := 0) k5 ?_
      refine lv_tableIn (off := 53) (tgt := 72) C.1 C.2.1 dX11_slide_19 (by decide) (by decide) rfl (by decide) ?_
      have ha2_ := congrArg Int32.toInt k5
      have ha2_ : a2.toInt = 0 := ha2_
      refine lv_aload_n C.1 C.2.1 dX11_slide_72 rfl (lv_at hl 0 rfl) ?_
      refine x_get C hw iwX11 10 rfl 0 rfl 14 (by decide) kw1207 rfl dX11_slide_73 ?_
      refine lv_bipush (v := 69) C.1 C.2.1 dX11_slide_76 (by decide) ?_
      refine lv_iload_n C.1 C.2.1 dX11_slide_78 rfl (lv_at hl 1 rfl) ?_
      refine lv_iadd C.1 C.2.1 dX11_slide_79 (x_genP (fun z : Int32 => z.toInt = 69 + a1.toInt) (i_add (X := 69) (Y := a1.toInt) rfl rfl (by omega) (by omega)) (fun v6 hv6 => ?_))
      refine x_iald (v := (qm_now_c v6.toNatClampNeg)) C hw 1 rfl (i_in (by omega) (by omega)) rfl dX11_slide_80 (x_gen (fun v7 => ?_))
      refine lv_iload_n C.1 C.2.1 dX11_slide_81 rfl (lv_at hl 2 rfl) ?_
      refine x_calliS (As := [.int v7, .int a2]) (rest := []) (wr := [(qm, .inr (10, [.int 0, .ref qm_tape, .int qm_taped, .int qm_size, .int qm_limit, .int qm_to, .int qm_from, .int qm_kind, .int qm_number, .int qm_sign, .int qm_fault, .int qm_place, .long qm_word, .int qm_told, .ref qm_now, .ref qm_read, .ref qm_kept, .ref qm_snaps, .ref qm_aside, .ref qm_name, .ref qm_readName, .ref qm_keptName, .ref qm_isKept, .ref qm_onces, .int qm_snapMany, .ref qm_order, .ref qm_ordered, .int qm_orderMany, .int qm_orderMost, .int qm_passing, .int qm_movedWho, .int qm_scratched, .ref qm_text, .int qm_texts, .int qm_seed, .ref qm_line, .ref qm_written, .int qm_lineMany, .int qm_hasWritten, .ref qm_node, .int qm_nodes, .int qm_onesMany, .int qm_within, .int qm_top])), (qm_now, eI G 339 qm_now_c)]) C hw (s_X11_rowOf v7 a2) mwX11_rowOf kw1473 [] [0, 1] rfl rfl rfl rfl (by decide) rfl hl.1 rfl (Nat.le_of_ble_eq_true rfl) ⟨(Nat.le_of_ble_eq_true rfl), (Nat.le_of_ble_eq_true rfl)⟩ ⟨(Nat.le_of_ble_eq_true rfl), (Nat.le_of_ble_eq_true rfl)⟩ dX11_slide_82 (fun r8 u9 H locs hp9 hw => ?_)
      obtain ⟨x9, rfl, rfl⟩ := hp9
      have hw : Wd G s A [(qm, .inr (10, [.int 0, .ref qm_tape, .int qm_taped, .int qm_size, .int qm_limit, .int qm_to, .int qm_from, .int qm_kind, .int qm_number, .int qm_sign, .int qm_fault, .int qm_place, .long qm_word, .int qm_told, .ref qm_now, .ref qm_read, .ref qm_kept, .ref qm_snaps, .ref qm_aside, .ref qm_name, .ref qm_readName, .ref qm_keptName, .ref qm_isKept, .ref qm_onces, .int qm_snapMany, .ref qm_order, .ref qm_ordered, .int qm_orderMany, .int qm_orderMost, .int qm_passing, .int qm_movedWho, .int qm_scratched, .ref qm_text, .int qm_texts, .int qm_seed, .ref qm_line, .ref qm_written, .int qm_lineMany, .int qm_hasWritten, .ref qm_node, .int qm_nodes, .int qm_onesMany, .int qm_within, .int qm_top])), (qm_now, eI G 339 qm_now_c)] H _ := hw
      exact x_retiQ hQ B hw ⟨0, r8, rfl, rfl, (by decide)⟩ (Nat.le_of_ble_eq_true rfl) (Nat.le_of_ble_eq_true rfl) dX11_slide_85
    · skip
      have k5 : a2 = 1 := Int32.toInt_inj.mp (by rw [k5]; rfl)
      refine x_topi (z := 1) k5 ?_
      refine lv_tableIn (off := 53) (tgt := 72) C.1 C.2.1 dX11_slide_19 (by decide) (by decide) rfl (by decide) ?_
      have ha2_ := congrArg Int32.toInt k5
      have ha2_ : a2.toInt = 1 := ha2_
      refine lv_aload_n C.1 C.2.1 dX11_slide_72 rfl (lv_at hl 0 rfl) ?_
      refine x_get C hw iwX11 10 rfl 0 rfl 14 (by decide) kw1207 rfl dX11_slide_73 ?_
      refine lv_bipush (v := 69) C.1 C.2.1 dX11_slide_76 (by decide) ?_
      refine lv_iload_n C.1 C.2.1 dX11_slide_78 rfl (lv_at hl 1 rfl) ?_
      refine lv_iadd C.1 C.2.1 dX11_slide_79 (x_genP (fun z : Int32 => z.toInt = 69 + a1.toInt) (i_add (X := 69) (Y := a1.toInt) rfl rfl (by omega) (by omega)) (fun v10 hv10 => ?_))
      refine x_iald (v := (qm_now_c v10.toNatClampNeg)) C hw 1 rfl (i_in (by omega) (by omega)) rfl dX11_slide_80 (x_gen (fun v11 => ?_))
      refine lv_iload_n C.1 C.2.1 dX11_slide_81 rfl (lv_at hl 2 rfl) ?_
      refine x_calliS (As := [.int v11, .int a2]) (rest := []) (wr := [(qm, .inr (10, [.int 0, .ref qm_tape, .int qm_taped, .int qm_size, .int qm_limit, .int qm_to, .int qm_from, .int qm_kind, .int qm_number, .int qm_sign, .int qm_fault, .int qm_place, .long qm_word, .int qm_told, .ref qm_now, .ref qm_read, .ref qm_kept, .ref qm_snaps, .ref qm_aside, .ref qm_name, .ref qm_readName, .ref qm_keptName, .ref qm_isKept, .ref qm_onces, .int qm_snapMany, .ref qm_order, .ref qm_ordered, .int qm_orderMany, .int qm_orderMost, .int qm_passing, .int qm_movedWho, .int qm_scratched, .ref qm_text, .int qm_texts, .int qm_seed, .ref qm_line, .ref qm_written, .int qm_lineMany, .int qm_hasWritten, .ref qm_node, .int qm_nodes, .int qm_onesMany, .int qm_within, .int qm_top])), (qm_now, eI G 339 qm_now_c)]) C hw (s_X11_rowOf v11 a2) mwX11_rowOf kw1473 [] [0, 1] rfl rfl rfl rfl (by decide) rfl hl.1 rfl (Nat.le_of_ble_eq_true rfl) ⟨(Nat.le_of_ble_eq_true rfl), (Nat.le_of_ble_eq_true rfl)⟩ ⟨(Nat.le_of_ble_eq_true rfl), (Nat.le_of_ble_eq_true rfl)⟩ dX11_slide_82 (fun r12 u9 H locs hp9 hw => ?_)
      obtain ⟨x13, rfl, rfl⟩ := hp9
      have hw : Wd G s A [(qm, .inr (10, [.int 0, .ref qm_tape, .int qm_taped, .int qm_size, .int qm_limit, .int qm_to, .int qm_from, .int qm_kind, .int qm_number, .int qm_sign, .int qm_fault, .int qm_place, .long qm_word, .int qm_told, .ref qm_now, .ref qm_read, .ref qm_kept, .ref qm_snaps, .ref qm_aside, .ref qm_name, .ref qm_readName, .ref qm_keptName, .ref qm_isKept, .ref qm_onces, .int qm_snapMany, .ref qm_order, .ref qm_ordered, .int qm_orderMany, .int qm_orderMost, .int qm_passing, .int qm_movedWho, .int qm_scratched, .ref qm_text, .int qm_texts, .int qm_seed, .ref qm_line, .ref qm_written, .int qm_lineMany, .int qm_hasWritten, .ref qm_node, .int qm_nodes, .int qm_onesMany, .int qm_within, .int qm_top])), (qm_now, eI G 339 qm_now_c)] H _ := hw
      exact x_retiQ hQ B hw ⟨0, r12, rfl, rfl, (by decide)⟩ (Nat.le_of_ble_eq_true rfl) (Nat.le_of_ble_eq_true rfl) dX11_slide_85
    · skip
      have k5 : a2 = 2 := Int32.toInt_inj.mp (by rw [k5]; rfl)
      refine x_topi (z := 2) k5 ?_
      refine lv_tableIn (off := 53) (tgt := 72) C.1 C.2.1 dX11_slide_19 (by decide) (by decide) rfl (by decide) ?_
      have ha2_ := congrArg Int32.toInt k5
      have ha2_ : a2.toInt = 2 := ha2_
      refine lv_aload_n C.1 C.2.1 dX11_slide_72 rfl (lv_at hl 0 rfl) ?_
      refine x_get C hw iwX11 10 rfl 0 rfl 14 (by decide) kw1207 rfl dX11_slide_73 ?_
      refine lv_bipush (v := 69) C.1 C.2.1 dX11_slide_76 (by decide) ?_
      refine lv_iload_n C.1 C.2.1 dX11_slide_78 rfl (lv_at hl 1 rfl) ?_
      refine lv_iadd C.1 C.2.1 dX11_slide_79 (x_genP (fun z : Int32 => z.toInt = 69 + a1.toInt) (i_add (X := 69) (Y := a1.toInt) rfl rfl (by omega) (by omega)) (fun v14 hv14 => ?_))
      refine x_iald (v := (qm_now_c v14.toNatClampNeg)) C hw 1 rfl (i_in (by omega) (by omega)) rfl dX11_slide_80 (x_gen (fun v15 => ?_))
      refine lv_iload_n C.1 C.2.1 dX11_slide_81 rfl (lv_at hl 2 rfl) ?_
      refine x_calliS (As := [.int v15, .int a2]) (rest := []) (wr := [(qm, .inr (10, [.int 0, .ref qm_tape, .int qm_taped, .int qm_size, .int qm_limit, .int qm_to, .int qm_from, .int qm_kind, .int qm_number, .int qm_sign, .int qm_fault, .int qm_place, .long qm_word, .int qm_told, .ref qm_now, .ref qm_read, .ref qm_kept, .ref qm_snaps, .ref qm_aside, .ref qm_name, .ref qm_readName, .ref qm_keptName, .ref qm_isKept, .ref qm_onces, .int qm_snapMany, .ref qm_order, .ref qm_ordered, .int qm_orderMany, .int qm_orderMost, .int qm_passing, .int qm_movedWho, .int qm_scratched, .ref qm_text, .int qm_texts, .int qm_seed, .ref qm_line, .ref qm_written, .int qm_lineMany, .int qm_hasWritten, .ref qm_node, .int qm_nodes, .int qm_onesMany, .int qm_within, .int qm_top])), (qm_now, eI G 339 qm_now_c)]) C hw (s_X11_rowOf v15 a2) mwX11_rowOf kw1473 [] [0, 1] rfl rfl rfl rfl (by decide) rfl hl.1 rfl (Nat.le_of_ble_eq_true rfl) ⟨(Nat.le_of_ble_eq_true rfl), (Nat.le_of_ble_eq_true rfl)⟩ ⟨(Nat.le_of_ble_eq_true rfl), (Nat.le_of_ble_eq_true rfl)⟩ dX11_slide_82 (fun r16 u9 H locs hp9 hw => ?_)
      obtain ⟨x17, rfl, rfl⟩ := hp9
      have hw : Wd G s A [(qm, .inr (10, [.int 0, .ref qm_tape, .int qm_taped, .int qm_size, .int qm_limit, .int qm_to, .int qm_from, .int qm_kind, .int qm_number, .int qm_sign, .int qm_fault, .int qm_place, .long qm_word, .int qm_told, .ref qm_now, .ref qm_read, .ref qm_kept, .ref qm_snaps, .ref qm_aside, .ref qm_name, .ref qm_readName, .ref qm_keptName, .ref qm_isKept, .ref qm_onces, .int qm_snapMany, .ref qm_order, .ref qm_ordered, .int qm_orderMany, .int qm_orderMost, .int qm_passing, .int qm_movedWho, .int qm_scratched, .ref qm_text, .int qm_texts, .int qm_seed, .ref qm_line, .ref qm_written, .int qm_lineMany, .int qm_hasWritten, .ref qm_node, .int qm_nodes, .int qm_onesMany, .int qm_within, .int qm_top])), (qm_now, eI G 339 qm_now_c)] H _ := hw
      exact x_retiQ hQ B hw ⟨0, r16, rfl, rfl, (by decide)⟩ (Nat.le_of_ble_eq_true rfl) (Nat.le_of_ble_eq_true rfl) dX11_slide_85
    · skip
      have k5 : a2 = 3 := Int32.toInt_inj.mp (by rw [k5]; rfl)
      refine x_topi (z := 3) k5 ?_
      refine lv_tableIn (off := 53) (tgt := 72) C.1 C.2.1 dX11_slide_19 (by decide) (by decide) rfl (by decide) ?_
      have ha2_ := congrArg Int32.toInt k5
      have ha2_ : a2.toInt = 3 := ha2_
      refine lv_aload_n C.1 C.2.1 dX11_slide_72 rfl (lv_at hl 0 rfl) ?_
      refine x_get C hw iwX11 10 rfl 0 rfl 14 (by decide) kw1207 rfl dX11_slide_73 ?_
      refine lv_bipush (v := 69) C.1 C.2.1 dX11_slide_76 (by decide) ?_
      refine lv_iload_n C.1 C.2.1 dX11_slide_78 rfl (lv_at hl 1 rfl) ?_
      refine lv_iadd C.1 C.2.1 dX11_slide_79 (x_genP (fun z : Int32 => z.toInt = 69 + a1.toInt) (i_add (X := 69) (Y := a1.toInt) rfl rfl (by omega) (by omega)) (fun v18 hv18 => ?_))
      refine x_iald (v := (qm_now_c v18.toNatClampNeg)) C hw 1 rfl (i_in (by omega) (by omega)) rfl dX11_slide_80 (x_gen (fun v19 => ?_))
      refine lv_iload_n C.1 C.2.1 dX11_slide_81 rfl (lv_at hl 2 rfl) ?_
      refine x_calliS (As := [.int v19, .int a2]) (rest := []) (wr := [(qm, .inr (10, [.int 0, .ref qm_tape, .int qm_taped, .int qm_size, .int qm_limit, .int qm_to, .int qm_from, .int qm_kind, .int qm_number, .int qm_sign, .int qm_fault, .int qm_place, .long qm_word, .int qm_told, .ref qm_now, .ref qm_read, .ref qm_kept, .ref qm_snaps, .ref qm_aside, .ref qm_name, .ref qm_readName, .ref qm_keptName, .ref qm_isKept, .ref qm_onces, .int qm_snapMany, .ref qm_order, .ref qm_ordered, .int qm_orderMany, .int qm_orderMost, .int qm_passing, .int qm_movedWho, .int qm_scratched, .ref qm_text, .int qm_texts, .int qm_seed, .ref qm_line, .ref qm_written, .int qm_lineMany, .int qm_hasWritten, .ref qm_node, .int qm_nodes, .int qm_onesMany, .int qm_within, .int qm_top])), (qm_now, eI G 339 qm_now_c)]) C hw (s_X11_rowOf v19 a2) mwX11_rowOf kw1473 [] [0, 1] rfl rfl rfl rfl (by decide) rfl hl.1 rfl (Nat.le_of_ble_eq_true rfl) ⟨(Nat.le_of_ble_eq_true rfl), (Nat.le_of_ble_eq_true rfl)⟩ ⟨(Nat.le_of_ble_eq_true rfl), (Nat.le_of_ble_eq_true rfl)⟩ dX11_slide_82 (fun r20 u9 H locs hp9 hw => ?_)
      obtain ⟨x21, rfl, rfl⟩ := hp9
      have hw : Wd G s A [(qm, .inr (10, [.int 0, .ref qm_tape, .int qm_taped, .int qm_size, .int qm_limit, .int qm_to, .int qm_from, .int qm_kind, .int qm_number, .int qm_sign, .int qm_fault, .int qm_place, .long qm_word, .int qm_told, .ref qm_now, .ref qm_read, .ref qm_kept, .ref qm_snaps, .ref qm_aside, .ref qm_name, .ref qm_readName, .ref qm_keptName, .ref qm_isKept, .ref qm_onces, .int qm_snapMany, .ref qm_order, .ref qm_ordered, .int qm_orderMany, .int qm_orderMost, .int qm_passing, .int qm_movedWho, .int qm_scratched, .ref qm_text, .int qm_texts, .int qm_seed, .ref qm_line, .ref qm_written, .int qm_lineMany, .int qm_hasWritten, .ref qm_node, .int qm_nodes, .int qm_onesMany, .int qm_within, .int qm_top])), (qm_now, eI G 339 qm_now_c)] H _ := hw
      exact x_retiQ hQ B hw ⟨0, r20, rfl, rfl, (by decide)⟩ (Nat.le_of_ble_eq_true rfl) (Nat.le_of_ble_eq_true rfl) dX11_slide_85
    · skip
      have k5 : a2 = 4 := Int32.toInt_inj.mp (by rw [k5]; rfl)
      refine x_topi (z := 4) k5 ?_
      refine lv_tableIn (off := 67) (tgt := 86) C.1 C.2.1 dX11_slide_19 (by decide) (by decide) rfl (by decide) ?_
      have ha2_ := congrArg Int32.toInt k5
      have ha2_ : a2.toInt = 4 := ha2_
      refine lv_aload_n C.1 C.2.1 dX11_slide_86 rfl (lv_at hl 0 rfl) ?_
      refine x_get C hw iwX11 10 rfl 0 rfl 14 (by decide) kw1207 rfl dX11_slide_87 ?_
      refine lv_bipush (v := 12) C.1 C.2.1 dX11_slide_90 (by decide) ?_
      refine lv_iload_n C.1 C.2.1 dX11_slide_92 rfl (lv_at hl 1 rfl) ?_
      refine lv_iadd C.1 C.2.1 dX11_slide_93 (x_genP (fun z : Int32 => z.toInt = 12 + a1.toInt) (i_add (X := 12) (Y := a1.toInt) rfl rfl (by omega) (by omega)) (fun v22 hv22 => ?_))
      refine x_iald (v := (qm_now_c v22.toNatClampNeg)) C hw 1 rfl (i_in (by omega) (by omega)) rfl dX11_slide_94 (x_gen (fun v23 => ?_))
      exact x_retiQ hQ B hw ⟨0, v23, rfl, rfl, (by decide)⟩ (Nat.le_of_ble_eq_true rfl) (Nat.le_of_ble_eq_true rfl) dX11_slide_95
    · skip
      have k5 : a2 = 5 := Int32.toInt_inj.mp (by rw [k5]; rfl)
      refine x_topi (z := 5) k5 ?_
      refine lv_tableIn (off := 77) (tgt := 96) C.1 C.2.1 dX11_slide_19 (by decide) (by decide) rfl (by decide) ?_
      have ha2_ := congrArg Int32.toInt k5
      have ha2_ : a2.toInt = 5 := ha2_
      refine lv_aload_n C.1 C.2.1 dX11_slide_96 rfl (lv_at hl 0 rfl) ?_
      refine x_get C hw iwX11 10 rfl 0 rfl 14 (by decide) kw1207 rfl dX11_slide_97 ?_
      refine lv_bipush (v := 18) C.1 C.2.1 dX11_slide_100 (by decide) ?_
      refine lv_iload_n C.1 C.2.1 dX11_slide_102 rfl (lv_at hl 1 rfl) ?_
      refine lv_iadd C.1 C.2.1 dX11_slide_103 (x_genP (fun z : Int32 => z.toInt = 18 + a1.toInt) (i_add (X := 18) (Y := a1.toInt) rfl rfl (by omega) (by omega)) (fun v24 hv24 => ?_))
      have mm25 := hf_qm_now_c v24.toNatClampNeg
      have mm26 := i_cn v24
      refine x_iald (v := (qm_now_c v24.toNatClampNeg)) C hw 1 rfl (i_in (by omega) (by omega)) rfl dX11_slide_104 (x_genP (fun z : Int32 => z.toInt = (qm_now_c v24.toNatClampNeg).toInt ∧ -1 ≤ z.toInt ∧ z.toInt ≤ 5) ⟨rfl, by omega⟩ (fun v27 hv27 => ?_))
      exact x_retiQ hQ B hw ⟨0, v27, rfl, rfl, (by decide)⟩ (Nat.le_of_ble_eq_true rfl) (Nat.le_of_ble_eq_true rfl) dX11_slide_105
    · skip
      have k5 : a2 = 6 := Int32.toInt_inj.mp (by rw [k5]; rfl)
      refine x_topi (z := 6) k5 ?_
      refine lv_tableIn (off := 87) (tgt := 106) C.1 C.2.1 dX11_slide_19 (by decide) (by decide) rfl (by decide) ?_
      have ha2_ := congrArg Int32.toInt k5
      have ha2_ : a2.toInt = 6 := ha2_
      refine lv_aload_n C.1 C.2.1 dX11_slide_106 rfl (lv_at hl 0 rfl) ?_
      refine lv_iload_n C.1 C.2.1 dX11_slide_107 rfl (lv_at hl 1 rfl) ?_
      refine x_calliV (As := [.int a1]) (rest := []) (wr := []) C hw (s_X11_isSo qm a1 0 qm_tape qm_taped qm_size qm_limit qm_to qm_from qm_kind qm_number qm_sign qm_fault qm_place qm_word qm_told qm_now qm_read qm_kept qm_snaps qm_aside qm_name qm_readName qm_keptName qm_isKept qm_onces qm_snapMany qm_order qm_ordered qm_orderMany qm_orderMost qm_passing qm_movedWho qm_scratched qm_text qm_texts qm_seed qm_line qm_written qm_lineMany qm_hasWritten qm_node qm_nodes qm_onesMany qm_within qm_top qm_now_c hf_qm_now_c hf1_qm_now_c) mwX11_isSo kw1476 [0, 1] [] rfl rfl rfl rfl (by decide) 0 rfl rfl rfl rfl hl.1 rfl (Nat.le_of_ble_eq_true rfl) ⟨(Nat.le_of_ble_eq_true rfl), (Nat.le_of_ble_eq_true rfl)⟩ ⟨(Nat.le_of_ble_eq_true rfl), (Nat.le_of_ble_eq_true rfl)⟩ dX11_slide_108 (fun r28 u9 H locs hp9 hw => ?_)
      rcases hp9 with ⟨rfl, rfl⟩ | ⟨rfl, rfl⟩
      · skip
        have hw : Wd G s A [(qm, .inr (10, [.int 0, .ref qm_tape, .int qm_taped, .int qm_size, .int qm_limit, .int qm_to, .int qm_from, .int qm_kind, .int qm_number, .int qm_sign, .int qm_fault, .int qm_place, .long qm_word, .int qm_told, .ref qm_now, .ref qm_read, .ref qm_kept, .ref qm_snaps, .ref qm_aside, .ref qm_name, .ref qm_readName, .ref qm_keptName, .ref qm_isKept, .ref qm_onces, .int qm_snapMany, .ref qm_order, .ref qm_ordered, .int qm_orderMany, .int qm_orderMost, .int qm_passing, .int qm_movedWho, .int qm_scratched, .ref qm_text, .int qm_texts, .int qm_seed, .ref qm_line, .ref qm_written, .int qm_lineMany, .int qm_hasWritten, .ref qm_node, .int qm_nodes, .int qm_onesMany, .int qm_within, .int qm_top])), (qm_now, eI G 339 qm_now_c)] H _ := hw
        refine lv_if_eq (tgt := 118) C.1 C.2.1 dX11_slide_111 (by decide) (fun _ => ?_) (fun h9 => absurd (by decide) h9)
        refine lv_iconst (v := 0) C.1 C.2.1 dX11_slide_118 (by decide) ?_
        exact x_retiQ hQ B hw ⟨0, 0, rfl, rfl, (by decide)⟩ (Nat.le_of_ble_eq_true rfl) (Nat.le_of_ble_eq_true rfl) dX11_slide_119
      · skip
        have hw : Wd G s A [(qm, .inr (10, [.int 0, .ref qm_tape, .int qm_taped, .int qm_size, .int qm_limit, .int qm_to, .int qm_from, .int qm_kind, .int qm_number, .int qm_sign, .int qm_fault, .int qm_place, .long qm_word, .int qm_told, .ref qm_now, .ref qm_read, .ref qm_kept, .ref qm_snaps, .ref qm_aside, .ref qm_name, .ref qm_readName, .ref qm_keptName, .ref qm_isKept, .ref qm_onces, .int qm_snapMany, .ref qm_order, .ref qm_ordered, .int qm_orderMany, .int qm_orderMost, .int qm_passing, .int qm_movedWho, .int qm_scratched, .ref qm_text, .int qm_texts, .int qm_seed, .ref qm_line, .ref qm_written, .int qm_lineMany, .int qm_hasWritten, .ref qm_node, .int qm_nodes, .int qm_onesMany, .int qm_within, .int qm_top])), (qm_now, eI G 339 qm_now_c)] H _ := hw
        refine lv_if_eq (tgt := 118) C.1 C.2.1 dX11_slide_111 (by decide) (fun h9 => absurd h9 (by decide)) (fun _ => ?_)
        refine lv_iconst (v := 1) C.1 C.2.1 dX11_slide_114 (by decide) ?_
        refine lv_goto (tgt := 119) C.1 C.2.1 dX11_slide_115 (by decide) ?_
        exact x_retiQ hQ B hw ⟨0, 1, rfl, rfl, (by decide)⟩ (Nat.le_of_ble_eq_true rfl) (Nat.le_of_ble_eq_true rfl) dX11_slide_119
    · skip
      have k5 : a2 = 7 := Int32.toInt_inj.mp (by rw [k5]; rfl)
      refine x_topi (z := 7) k5 ?_
      refine lv_tableIn (off := 101) (tgt := 120) C.1 C.2.1 dX11_slide_19 (by decide) (by decide) rfl (by decide) ?_
      have ha2_ := congrArg Int32.toInt k5
      have ha2_ : a2.toInt = 7 := ha2_
      refine lv_aload_n C.1 C.2.1 dX11_slide_120 rfl (lv_at hl 0 rfl) ?_
      refine lv_iload_n C.1 C.2.1 dX11_slide_121 rfl (lv_at hl 1 rfl) ?_
      refine x_calliV (As := [.int a1]) (rest := []) (wr := []) C hw (s_X11_isCracked qm a1 0 qm_tape qm_taped qm_size qm_limit qm_to qm_from qm_kind qm_number qm_sign qm_fault qm_place qm_word qm_told qm_now qm_read qm_kept qm_snaps qm_aside qm_name qm_readName qm_keptName qm_isKept qm_onces qm_snapMany qm_order qm_ordered qm_orderMany qm_orderMost qm_passing qm_movedWho qm_scratched qm_text qm_texts qm_seed qm_line qm_written qm_lineMany qm_hasWritten qm_node qm_nodes qm_onesMany qm_within qm_top qm_now_c hf_qm_now_c hf1_qm_now_c) mwX11_isCracked kw1480 [0, 1] [] rfl rfl rfl rfl (by decide) 0 rfl rfl rfl rfl hl.1 rfl (Nat.le_of_ble_eq_true rfl) ⟨(Nat.le_of_ble_eq_true rfl), (Nat.le_of_ble_eq_true rfl)⟩ ⟨(Nat.le_of_ble_eq_true rfl), (Nat.le_of_ble_eq_true rfl)⟩ dX11_slide_122 (fun r29 u9 H locs hp9 hw => ?_)
      rcases hp9 with ⟨rfl, rfl⟩ | ⟨rfl, rfl⟩
      · skip
        have hw : Wd G s A [(qm, .inr (10, [.int 0, .ref qm_tape, .int qm_taped, .int qm_size, .int qm_limit, .int qm_to, .int qm_from, .int qm_kind, .int qm_number, .int qm_sign, .int qm_fault, .int qm_place, .long qm_word, .int qm_told, .ref qm_now, .ref qm_read, .ref qm_kept, .ref qm_snaps, .ref qm_aside, .ref qm_name, .ref qm_readName, .ref qm_keptName, .ref qm_isKept, .ref qm_onces, .int qm_snapMany, .ref qm_order, .ref qm_ordered, .int qm_orderMany, .int qm_orderMost, .int qm_passing, .int qm_movedWho, .int qm_scratched, .ref qm_text, .int qm_texts, .int qm_seed, .ref qm_line, .ref qm_written, .int qm_lineMany, .int qm_hasWritten, .ref qm_node, .int qm_nodes, .int qm_onesMany, .int qm_within, .int qm_top])), (qm_now, eI G 339 qm_now_c)] H _ := hw
        refine lv_if_eq (tgt := 132) C.1 C.2.1 dX11_slide_125 (by decide) (fun _ => ?_) (fun h9 => absurd (by decide) h9)
        refine lv_iconst (v := 0) C.1 C.2.1 dX11_slide_132 (by decide) ?_
        exact x_retiQ hQ B hw ⟨0, 0, rfl, rfl, (by decide)⟩ (Nat.le_of_ble_eq_true rfl) (Nat.le_of_ble_eq_true rfl) dX11_slide_133
      · skip
        have hw : Wd G s A [(qm, .inr (10, [.int 0, .ref qm_tape, .int qm_taped, .int qm_size, .int qm_limit, .int qm_to, .int qm_from, .int qm_kind, .int qm_number, .int qm_sign, .int qm_fault, .int qm_place, .long qm_word, .int qm_told, .ref qm_now, .ref qm_read, .ref qm_kept, .ref qm_snaps, .ref qm_aside, .ref qm_name, .ref qm_readName, .ref qm_keptName, .ref qm_isKept, .ref qm_onces, .int qm_snapMany, .ref qm_order, .ref qm_ordered, .int qm_orderMany, .int qm_orderMost, .int qm_passing, .int qm_movedWho, .int qm_scratched, .ref qm_text, .int qm_texts, .int qm_seed, .ref qm_line, .ref qm_written, .int qm_lineMany, .int qm_hasWritten, .ref qm_node, .int qm_nodes, .int qm_onesMany, .int qm_within, .int qm_top])), (qm_now, eI G 339 qm_now_c)] H _ := hw
        refine lv_if_eq (tgt := 132) C.1 C.2.1 dX11_slide_125 (by decide) (fun h9 => absurd h9 (by decide)) (fun _ => ?_)
        refine lv_iconst (v := 1) C.1 C.2.1 dX11_slide_128 (by decide) ?_
        refine lv_goto (tgt := 133) C.1 C.2.1 dX11_slide_129 (by decide) ?_
        exact x_retiQ hQ B hw ⟨0, 1, rfl, rfl, (by decide)⟩ (Nat.le_of_ble_eq_true rfl) (Nat.le_of_ble_eq_true rfl) dX11_slide_133
    · skip
      have k5 : a2 = 8 := Int32.toInt_inj.mp (by rw [k5]; rfl)
      refine x_topi (z := 8) k5 ?_
      refine lv_tableIn (off := 115) (tgt := 134) C.1 C.2.1 dX11_slide_19 (by decide) (by decide) rfl (by decide) ?_
      have ha2_ := congrArg Int32.toInt k5
      have ha2_ : a2.toInt = 8 := ha2_
      refine lv_aload_n C.1 C.2.1 dX11_slide_134 rfl (lv_at hl 0 rfl) ?_
      refine x_get C hw iwX11 10 rfl 0 rfl 14 (by decide) kw1207 rfl dX11_slide_135 ?_
      refine lv_bipush (v := 75) C.1 C.2.1 dX11_slide_138 (by decide) ?_
      refine lv_iload_n C.1 C.2.1 dX11_slide_140 rfl (lv_at hl 1 rfl) ?_
      refine lv_iadd C.1 C.2.1 dX11_slide_141 (x_genP (fun z : Int32 => z.toInt = 75 + a1.toInt) (i_add (X := 75) (Y := a1.toInt) rfl rfl (by omega) (by omega)) (fun v30 hv30 => ?_))
      refine x_iald (v := (qm_now_c v30.toNatClampNeg)) C hw 1 rfl (i_in (by omega) (by omega)) rfl dX11_slide_142 (x_gen (fun v31 => ?_))
      exact x_retiQ hQ B hw ⟨0, v31, rfl, rfl, (by decide)⟩ (Nat.le_of_ble_eq_true rfl) (Nat.le_of_ble_eq_true rfl) dX11_slide_143
    · skip
      have k5 : a2 = 9 := Int32.toInt_inj.mp (by rw [k5]; rfl)
      refine x_topi (z := 9) k5 ?_
      refine lv_tableIn (off := 125) (tgt := 144) C.1 C.2.1 dX11_slide_19 (by decide) (by decide) rfl (by decide) ?_
      have ha2_ := congrArg Int32.toInt k5
      have ha2_ : a2.toInt = 9 := ha2_
      refine lv_aload_n C.1 C.2.1 dX11_slide_144 rfl (lv_at hl 0 rfl) ?_
      refine x_get C hw iwX11 10 rfl 0 rfl 14 (by decide) kw1207 rfl dX11_slide_145 ?_
      refine lv_bipush (v := 69) C.1 C.2.1 dX11_slide_148 (by decide) ?_
      refine lv_iload_n C.1 C.2.1 dX11_slide_150 rfl (lv_at hl 1 rfl) ?_
      refine lv_iadd C.1 C.2.1 dX11_slide_151 (x_genP (fun z : Int32 => z.toInt = 69 + a1.toInt) (i_add (X := 69) (Y := a1.toInt) rfl rfl (by omega) (by omega)) (fun v32 hv32 => ?_))
      refine x_iald (v := (qm_now_c v32.toNatClampNeg)) C hw 1 rfl (i_in (by omega) (by omega)) rfl dX11_slide_152 (x_gen (fun v33 => ?_))
      refine x_calliS (As := [.int v33]) (rest := []) (wr := [(qm, .inr (10, [.int 0, .ref qm_tape, .int qm_taped, .int qm_size, .int qm_limit, .int qm_to, .int qm_from, .int qm_kind, .int qm_number, .int qm_sign, .int qm_fault, .int qm_place, .long qm_word, .int qm_told, .ref qm_now, .ref qm_read, .ref qm_kept, .ref qm_snaps, .ref qm_aside, .ref qm_name, .ref qm_readName, .ref qm_keptName, .ref qm_isKept, .ref qm_onces, .int qm_snapMany, .ref qm_order, .ref qm_ordered, .int qm_orderMany, .int qm_orderMost, .int qm_passing, .int qm_movedWho, .int qm_scratched, .ref qm_text, .int qm_texts, .int qm_seed, .ref qm_line, .ref qm_written, .int qm_lineMany, .int qm_hasWritten, .ref qm_node, .int qm_nodes, .int qm_onesMany, .int qm_within, .int qm_top])), (qm_now, eI G 339 qm_now_c)]) C hw (s_X11_bits v33) mwX11_bits kw1484 [] [0, 1] rfl rfl rfl rfl (by decide) rfl hl.1 rfl (Nat.le_of_ble_eq_true rfl) ⟨(Nat.le_of_ble_eq_true rfl), (Nat.le_of_ble_eq_true rfl)⟩ ⟨(Nat.le_of_ble_eq_true rfl), (Nat.le_of_ble_eq_true rfl)⟩ dX11_slide_153 (fun r34 u9 H locs hp9 hw => ?_)
      obtain ⟨x35, rfl, rfl⟩ := hp9
      have hw : Wd G s A [(qm, .inr (10, [.int 0, .ref qm_tape, .int qm_taped, .int qm_size, .int qm_limit, .int qm_to, .int qm_from, .int qm_kind, .int qm_number, .int qm_sign, .int qm_fault, .int qm_place, .long qm_word, .int qm_told, .ref qm_now, .ref qm_read, .ref qm_kept, .ref qm_snaps, .ref qm_aside, .ref qm_name, .ref qm_readName, .ref qm_keptName, .ref qm_isKept, .ref qm_onces, .int qm_snapMany, .ref qm_order, .ref qm_ordered, .int qm_orderMany, .int qm_orderMost, .int qm_passing, .int qm_movedWho, .int qm_scratched, .ref qm_text, .int qm_texts, .int qm_seed, .ref qm_line, .ref qm_written, .int qm_lineMany, .int qm_hasWritten, .ref qm_node, .int qm_nodes, .int qm_onesMany, .int qm_within, .int qm_top])), (qm_now, eI G 339 qm_now_c)] H _ := hw
      exact x_retiQ hQ B hw ⟨0, r34, rfl, rfl, (by decide)⟩ (Nat.le_of_ble_eq_true rfl) (Nat.le_of_ble_eq_true rfl) dX11_slide_156
    · skip
      refine lv_tableOut (tgt := 157) C.1 C.2.1 dX11_slide_19 (by omega) (by decide) ?_
      refine lv_aload_n C.1 C.2.1 dX11_slide_157 rfl (lv_at hl 0 rfl) ?_
      refine x_calliV (As := []) (rest := []) (wr := [(qm_now, eI G 339 qm_now_c)]) C hw (s_X11_refuse qm 0 qm_tape qm_taped qm_size qm_limit qm_to qm_from qm_kind qm_number qm_sign qm_fault qm_place qm_word qm_told qm_now qm_read qm_kept qm_snaps qm_aside qm_name qm_readName qm_keptName qm_isKept qm_onces qm_snapMany qm_order qm_ordered qm_orderMany qm_orderMost qm_passing qm_movedWho qm_scratched qm_text qm_texts qm_seed qm_line qm_written qm_lineMany qm_hasWritten qm_node qm_nodes qm_onesMany qm_within qm_top) mwX11_refuse kw1469 [0] [1] rfl rfl rfl rfl (by decide) 0 rfl rfl rfl rfl hl.1 rfl (Nat.le_of_ble_eq_true rfl) ⟨(Nat.le_of_ble_eq_true rfl), (Nat.le_of_ble_eq_true rfl)⟩ ⟨(Nat.le_of_ble_eq_true rfl), (Nat.le_of_ble_eq_true rfl)⟩ dX11_slide_158 (fun r36 u9 H locs hp9 hw => ?_)
      obtain ⟨rfl, rfl⟩ := hp9
      have hw : Wd G s A [(qm_now, eI G 339 qm_now_c), (qm, .inr (10, [.int 1, .ref qm_tape, .int qm_taped, .int qm_size, .int qm_limit, .int qm_to, .int qm_from, .int qm_kind, .int qm_number, .int qm_sign, .int qm_fault, .int qm_place, .long qm_word, .int qm_told, .ref qm_now, .ref qm_read, .ref qm_kept, .ref qm_snaps, .ref qm_aside, .ref qm_name, .ref qm_readName, .ref qm_keptName, .ref qm_isKept, .ref qm_onces, .int qm_snapMany, .ref qm_order, .ref qm_ordered, .int qm_orderMany, .int qm_orderMost, .int qm_passing, .int qm_movedWho, .int qm_scratched, .ref qm_text, .int qm_texts, .int qm_seed, .ref qm_line, .ref qm_written, .int qm_lineMany, .int qm_hasWritten, .ref qm_node, .int qm_nodes, .int qm_onesMany, .int qm_within, .int qm_top]))] H _ := hw
      have hw := hw.sub (w' := [(qm, .inr (10, [.int 1, .ref qm_tape, .int qm_taped, .int qm_size, .int qm_limit, .int qm_to, .int qm_from, .int qm_kind, .int qm_number, .int qm_sign, .int qm_fault, .int qm_place, .long qm_word, .int qm_told, .ref qm_now, .ref qm_read, .ref qm_kept, .ref qm_snaps, .ref qm_aside, .ref qm_name, .ref qm_readName, .ref qm_keptName, .ref qm_isKept, .ref qm_onces, .int qm_snapMany, .ref qm_order, .ref qm_ordered, .int qm_orderMany, .int qm_orderMost, .int qm_passing, .int qm_movedWho, .int qm_scratched, .ref qm_text, .int qm_texts, .int qm_seed, .ref qm_line, .ref qm_written, .int qm_lineMany, .int qm_hasWritten, .ref qm_node, .int qm_nodes, .int qm_onesMany, .int qm_within, .int qm_top])), (qm_now, eI G 339 qm_now_c)]) [1, 0] rfl rfl
      exact x_retiQ hQ B hw ⟨1, 0, rfl, rfl, (by decide)⟩ (Nat.le_of_ble_eq_true rfl) (Nat.le_of_ble_eq_true rfl) dX11_slide_161
theorem dX11_row_0 : decode cX11_row 0 = .ok (.aload_n 0, 1) := by decide +kernel
theorem dX11_row_1 : decode cX11_row 1 = .ok (.iconst 0, 1) := by decide +kernel
theorem dX11_row_2 : decode cX11_row 2 = .ok (.putfield 1, 3) := by decide +kernel
theorem dX11_row_5 : decode cX11_row 5 = .ok (.aload_n 0, 1) := by decide +kernel
theorem dX11_row_6 : decode cX11_row 6 = .ok (.iload_n 1, 1) := by decide +kernel
theorem dX11_row_7 : decode cX11_row 7 = .ok (.invokevirtual 237, 3) := by decide +kernel
theorem dX11_row_10 : decode cX11_row 10 = .ok (.ifCond .eq 31, 3) := by decide +kernel
theorem dX11_row_41 : decode cX11_row 41 = .ok (.iconst (-1), 1) := by decide +kernel
theorem dX11_row_42 : decode cX11_row 42 = .ok (.ireturn, 1) := by decide +kernel
theorem dX11_row_13 : decode cX11_row 13 = .ok (.iload_n 2, 1) := by decide +kernel
theorem dX11_row_14 : decode cX11_row 14 = .ok (.iconst 0, 1) := by decide +kernel
theorem dX11_row_15 : decode cX11_row 15 = .ok (.iconst 3, 1) := by decide +kernel
theorem dX11_row_16 : decode cX11_row 16 = .ok (.invokestatic 75, 3) := by decide +kernel
theorem dX11_row_19 : decode cX11_row 19 = .ok (.ifCond .eq 22, 3) := by decide +kernel
theorem dX11_row_22 : decode cX11_row 22 = .ok (.iload_n 3, 1) := by decide +kernel
theorem dX11_row_23 : decode cX11_row 23 = .ok (.iconst 0, 1) := by decide +kernel
theorem dX11_row_24 : decode cX11_row 24 = .ok (.iconst 1, 1) := by decide +kernel
theorem dX11_row_25 : decode cX11_row 25 = .ok (.invokestatic 75, 3) := by decide +kernel
theorem dX11_row_28 : decode cX11_row 28 = .ok (.ifCond .eq 13, 3) := by decide +kernel
theorem dX11_row_31 : decode cX11_row 31 = .ok (.iload 4, 2) := by decide +kernel
theorem dX11_row_33 : decode cX11_row 33 = .ok (.iconst 0, 1) := by decide +kernel
theorem dX11_row_34 : decode cX11_row 34 = .ok (.iconst 3, 1) := by decide +kernel
theorem dX11_row_35 : decode cX11_row 35 = .ok (.invokestatic 75, 3) := by decide +kernel
theorem dX11_row_38 : decode cX11_row 38 = .ok (.ifCond .ne 5, 3) := by decide +kernel
theorem dX11_row_43 : decode cX11_row 43 = .ok (.aload_n 0, 1) := by decide +kernel
theorem dX11_row_44 : decode cX11_row 44 = .ok (.getfield 98, 3) := by decide +kernel
theorem dX11_row_47 : decode cX11_row 47 = .ok (.bipush 69, 2) := by decide +kernel
theorem dX11_row_49 : decode cX11_row 49 = .ok (.iload_n 1, 1) := by decide +kernel
theorem dX11_row_50 : decode cX11_row 50 = .ok (.iadd, 1) := by decide +kernel
theorem dX11_row_51 : decode cX11_row 51 = .ok (.iaload, 1) := by decide +kernel
theorem dX11_row_52 : decode cX11_row 52 = .ok (.iload_n 2, 1) := by decide +kernel
theorem dX11_row_53 : decode cX11_row 53 = .ok (.invokestatic 234, 3) := by decide +kernel
theorem dX11_row_56 : decode cX11_row 56 = .ok (.iload_n 3, 1) := by decide +kernel
theorem dX11_row_57 : decode cX11_row 57 = .ok (.invokestatic 255, 3) := by decide +kernel
theorem mwX11_seenFrom : MwS yX11_seenFrom cX11_seenFrom 2 (some .int) 2 := ⟨⟨kw1496, kw15, by decide +kernel⟩, kw1495⟩
theorem dX11_row_60 : decode cX11_row 60 = .ok (.iload 4, 2) := by decide +kernel
theorem dX11_row_62 : decode cX11_row 62 = .ok (.invokestatic 243, 3) := by decide +kernel
theorem dX11_row_65 : decode cX11_row 65 = .ok (.ireturn, 1) := by decide +kernel
set_option maxHeartbeats 4000000 in
set_option maxRecDepth 100000 in
theorem s_X11_row {l : Launch} {G : Gc} (qm : Nat) (a1 : Int32) (a2 : Int32) (a3 : Int32) (a4 : Int32) (qm_thrown : Int32) (qm_tape : Nat) (qm_taped : Int32) (qm_size : Int32) (qm_limit : Int32) (qm_to : Int32) (qm_from : Int32) (qm_kind : Int32) (qm_number : Int32) (qm_sign : Int32) (qm_fault : Int32) (qm_place : Int32) (qm_word : Int64) (qm_told : Int32) (qm_now : Nat) (qm_read : Nat) (qm_kept : Nat) (qm_snaps : Nat) (qm_aside : Nat) (qm_name : Nat) (qm_readName : Nat) (qm_keptName : Nat) (qm_isKept : Nat) (qm_onces : Nat) (qm_snapMany : Int32) (qm_order : Nat) (qm_ordered : Nat) (qm_orderMany : Int32) (qm_orderMost : Int32) (qm_passing : Int32) (qm_movedWho : Int32) (qm_scratched : Int32) (qm_text : Nat) (qm_texts : Int32) (qm_seed : Int32) (qm_line : Nat) (qm_written : Nat) (qm_lineMany : Int32) (qm_hasWritten : Int32) (qm_node : Nat) (qm_nodes : Int32) (qm_onesMany : Int32) (qm_within : Int32) (qm_top : Int32) (qm_now_c : Nat → Int32) (hf_qm_now_c : slI qm_now_c) (hf1_qm_now_c : trI qm_now_c) : Ci l yX11_row cX11_row 5 (some .int) 3 0 0 G [.ref qm, .int a1, .int a2, .int a3, .int a4] [(qm, .inr (10, [.int qm_thrown, .ref qm_tape, .int qm_taped, .int qm_size, .int qm_limit, .int qm_to, .int qm_from, .int qm_kind, .int qm_number, .int qm_sign, .int qm_fault, .int qm_place, .long qm_word, .int qm_told, .ref qm_now, .ref qm_read, .ref qm_kept, .ref qm_snaps, .ref qm_aside, .ref qm_name, .ref qm_readName, .ref qm_keptName, .ref qm_isKept, .ref qm_onces, .int qm_snapMany, .ref qm_order, .ref qm_ordered, .int qm_orderMany, .int qm_orderMost, .int qm_passing, .int qm_movedWho, .int qm_scratched, .ref qm_text, .int qm_texts, .int qm_seed, .ref qm_line, .ref qm_written, .int qm_lineMany, .int qm_hasWritten, .ref qm_node, .int qm_nodes, .int qm_onesMany, .int qm_within, .int qm_top])), (qm_now, eI G 339 qm_now_c)] (fun (r9 : Int32) (u9 : va_W) => ∃ (r_x : Int32), r9 = r_x ∧ u9 = [(qm, .inr (10, [.int 0, .ref qm_tape, .int qm_taped, .int qm_size, .int qm_limit, .int qm_to, .int qm_from, .int qm_kind, .int qm_number, .int qm_sign, .int qm_fault, .int qm_place, .long qm_word, .int qm_told, .ref qm_now, .ref qm_read, .ref qm_kept, .ref qm_snaps, .ref qm_aside, .ref qm_name, .ref qm_readName, .ref qm_keptName, .ref qm_isKept, .ref qm_onces, .int qm_snapMany, .ref qm_order, .ref qm_ordered, .int qm_orderMany, .int qm_orderMost, .int qm_passing, .int qm_movedWho, .int qm_scratched, .ref qm_text, .int qm_texts, .int qm_seed, .ref qm_line, .ref qm_written, .int qm_lineMany, .int qm_hasWritten, .ref qm_node, .int qm_nodes, .int qm_onesMany, .int qm_within, .int qm_top])), (qm_now, eI G 339 qm_now_c)]) := by
  refine Ci.ofQ (by decide) (Nat.le_of_ble_eq_true rfl) ?_
  intro p e s m below meth c ls A args Q hQ B hw hl
  have C : CallFix p m c cX11_row 5 s args gw "LanternStateModel" := B.1
  have hl : lv_has ls 5 [(0, .ref qm), (1, .int a1), (2, .int a2), (3, .int a3), (4, .int a4)] := hl
  refine lv_aload_n C.1 C.2.1 dX11_row_0 rfl (lv_at hl 0 rfl) ?_
  refine lv_iconst (v := 0) C.1 C.2.1 dX11_row_1 (by decide) ?_
  refine x_put (w' := [(qm, .inr (10, [.int 0, .ref qm_tape, .int qm_taped, .int qm_size, .int qm_limit, .int qm_to, .int qm_from, .int qm_kind, .int qm_number, .int qm_sign, .int qm_fault, .int qm_place, .long qm_word, .int qm_told, .ref qm_now, .ref qm_read, .ref qm_kept, .ref qm_snaps, .ref qm_aside, .ref qm_name, .ref qm_readName, .ref qm_keptName, .ref qm_isKept, .ref qm_onces, .int qm_snapMany, .ref qm_order, .ref qm_ordered, .int qm_orderMany, .int qm_orderMost, .int qm_passing, .int qm_movedWho, .int qm_scratched, .ref qm_text, .int qm_texts, .int qm_seed, .ref qm_line, .ref qm_written, .int qm_lineMany, .int qm_hasWritten, .ref qm_node, .int qm_nodes, .int qm_onesMany, .int qm_within, .int qm_top])), (qm_now, eI G 339 qm_now_c)]) C hw iwX11 tyX11_ok nmX11 10 rfl 0 rfl 0 (by decide) kw1193 rfl rfl rfl (Nat.le_of_ble_eq_true rfl) rfl dX11_row_2 (fun H locs hw => ?_)
  refine lv_aload_n C.1 C.2.1 dX11_row_5 rfl (lv_at hl 0 rfl) ?_
  refine lv_iload_n C.1 C.2.1 dX11_row_6 rfl (lv_at hl 1 rfl) ?_
  refine x_calliV (As := [.int a1]) (rest := []) (wr := []) C hw (s_X11_isSlide qm a1 0 qm_tape qm_taped qm_size qm_limit qm_to qm_from qm_kind qm_number qm_sign qm_fault qm_place qm_word qm_told qm_now qm_read qm_kept qm_snaps qm_aside qm_name qm_readName qm_keptName qm_isKept qm_onces qm_snapMany qm_order qm_ordered qm_orderMany qm_orderMost qm_passing qm_movedWho qm_scratched qm_text qm_texts qm_seed qm_line qm_written qm_lineMany qm_hasWritten qm_node qm_nodes qm_onesMany qm_within qm_top qm_now_c hf_qm_now_c hf1_qm_now_c) mwX11_isSlide kw1465 [0, 1] [] rfl rfl rfl rfl (by decide) 0 rfl rfl rfl rfl hl.1 rfl (Nat.le_of_ble_eq_true rfl) ⟨(Nat.le_of_ble_eq_true rfl), (Nat.le_of_ble_eq_true rfl)⟩ ⟨(Nat.le_of_ble_eq_true rfl), (Nat.le_of_ble_eq_true rfl)⟩ dX11_row_7 (fun r1 u9 H locs hp9 hw => ?_)
  rcases hp9 with ⟨rfl, rfl⟩ | ⟨rfl, rfl, hf2, hf3⟩
  · skip
    have hw : Wd G s A [(qm, .inr (10, [.int 0, .ref qm_tape, .int qm_taped, .int qm_size, .int qm_limit, .int qm_to, .int qm_from, .int qm_kind, .int qm_number, .int qm_sign, .int qm_fault, .int qm_place, .long qm_word, .int qm_told, .ref qm_now, .ref qm_read, .ref qm_kept, .ref qm_snaps, .ref qm_aside, .ref qm_name, .ref qm_readName, .ref qm_keptName, .ref qm_isKept, .ref qm_onces, .int qm_snapMany, .ref qm_order, .ref qm_ordered, .int qm_orderMany, .int qm_orderMost, .int qm_passing, .int qm_movedWho, .int qm_scratched, .ref qm_text, .int qm_texts, .int qm_seed, .ref qm_line, .ref qm_written, .int qm_lineMany, .int qm_hasWritten, .ref qm_node, .int qm_nodes, .int qm_onesMany, .int qm_within, .int qm_top])), (qm_now, eI G 339 qm_now_c)] H _ := hw
    refine lv_if_eq (tgt := 41) C.1 C.2.1 dX11_row_10 (by decide) (fun _ => ?_) (fun h9 => absurd (by decide) h9)
    refine lv_iconst (v := (-1)) C.1 C.2.1 dX11_row_41 (by decide) ?_
    exact x_retiQ hQ B hw ⟨(-1), rfl, rfl⟩ (Nat.le_of_ble_eq_true rfl) (Nat.le_of_ble_eq_true rfl) dX11_row_42
  · skip
    have hw : Wd G s A [(qm, .inr (10, [.int 0, .ref qm_tape, .int qm_taped, .int qm_size, .int qm_limit, .int qm_to, .int qm_from, .int qm_kind, .int qm_number, .int qm_sign, .int qm_fault, .int qm_place, .long qm_word, .int qm_told, .ref qm_now, .ref qm_read, .ref qm_kept, .ref qm_snaps, .ref qm_aside, .ref qm_name, .ref qm_readName, .ref qm_keptName, .ref qm_isKept, .ref qm_onces, .int qm_snapMany, .ref qm_order, .ref qm_ordered, .int qm_orderMany, .int qm_orderMost, .int qm_passing, .int qm_movedWho, .int qm_scratched, .ref qm_text, .int qm_texts, .int qm_seed, .ref qm_line, .ref qm_written, .int qm_lineMany, .int qm_hasWritten, .ref qm_node, .int qm_nodes, .int qm_onesMany, .int qm_within, .int qm_top])), (qm_now, eI G 339 qm_now_c)] H _ := hw
    refine lv_if_eq (tgt := 41) C.1 C.2.1 dX11_row_10 (by decide) (fun h9 => absurd h9 (by decide)) (fun _ => ?_)
    refine lv_iload_n C.1 C.2.1 dX11_row_13 rfl (lv_at hl 2 rfl) ?_
    refine lv_iconst (v := 0) C.1 C.2.1 dX11_row_14 (by decide) ?_
    refine lv_iconst (v := 3) C.1 C.2.1 dX11_row_15 (by decide) ?_
    refine x_calliS (As := [.int a2, .int 0, .int 3]) (rest := []) (wr := [(qm, .inr (10, [.int 0, .ref qm_tape, .int qm_taped, .int qm_size, .int qm_limit, .int qm_to, .int qm_from, .int qm_kind, .int qm_number, .int qm_sign, .int qm_fault, .int qm_place, .long qm_word, .int qm_told, .ref qm_now, .ref qm_read, .ref qm_kept, .ref qm_snaps, .ref qm_aside, .ref qm_name, .ref qm_readName, .ref qm_keptName, .ref qm_isKept, .ref qm_onces, .int qm_snapMany, .ref qm_order, .ref qm_ordered, .int qm_orderMany, .int qm_orderMost, .int qm_passing, .int qm_movedWho, .int qm_scratched, .ref qm_text, .int qm_texts, .int qm_seed, .ref qm_line, .ref qm_written, .int qm_lineMany, .int qm_hasWritten, .ref qm_node, .int qm_nodes, .int qm_onesMany, .int qm_within, .int qm_top])), (qm_now, eI G 339 qm_now_c)]) C hw (s_X11_isIn a2 0 3) mwX11_isIn kw1396 [] [0, 1] rfl rfl rfl rfl (by decide) rfl hl.1 rfl (Nat.le_of_ble_eq_true rfl) ⟨(Nat.le_of_ble_eq_true rfl), (Nat.le_of_ble_eq_true rfl)⟩ ⟨(Nat.le_of_ble_eq_true rfl), (Nat.le_of_ble_eq_true rfl)⟩ dX11_row_16 (fun r4 u9 H locs hp9 hw => ?_)
    rcases hp9 with ⟨rfl, rfl, hf5⟩ | ⟨rfl, rfl, hf6, hf7⟩
    · skip
      have hw : Wd G s A [(qm, .inr (10, [.int 0, .ref qm_tape, .int qm_taped, .int qm_size, .int qm_limit, .int qm_to, .int qm_from, .int qm_kind, .int qm_number, .int qm_sign, .int qm_fault, .int qm_place, .long qm_word, .int qm_told, .ref qm_now, .ref qm_read, .ref qm_kept, .ref qm_snaps, .ref qm_aside, .ref qm_name, .ref qm_readName, .ref qm_keptName, .ref qm_isKept, .ref qm_onces, .int qm_snapMany, .ref qm_order, .ref qm_ordered, .int qm_orderMany, .int qm_orderMost, .int qm_passing, .int qm_movedWho, .int qm_scratched, .ref qm_text, .int qm_texts, .int qm_seed, .ref qm_line, .ref qm_written, .int qm_lineMany, .int qm_hasWritten, .ref qm_node, .int qm_nodes, .int qm_onesMany, .int qm_within, .int qm_top])), (qm_now, eI G 339 qm_now_c)] H _ := hw
      have hf5 : a2.toInt < 0 ∨ 3 < a2.toInt := by first | exact hf5 | (have e0 : (0 : Int32).toInt = 0 := rfl; have e1 : (3 : Int32).toInt = 3 := rfl; omega)
      refine lv_if_eq (tgt := 41) C.1 C.2.1 dX11_row_19 (by decide) (fun _ => ?_) (fun h9 => absurd (by decide) h9)
      refine lv_iconst (v := (-1)) C.1 C.2.1 dX11_row_41 (by decide) ?_
      exact x_retiQ hQ B hw ⟨(-1), rfl, rfl⟩ (Nat.le_of_ble_eq_true rfl) (Nat.le_of_ble_eq_true rfl) dX11_row_42
    · skip
      have hw : Wd G s A [(qm, .inr (10, [.int 0, .ref qm_tape, .int qm_taped, .int qm_size, .int qm_limit, .int qm_to, .int qm_from, .int qm_kind, .int qm_number, .int qm_sign, .int qm_fault, .int qm_place, .long qm_word, .int qm_told, .ref qm_now, .ref qm_read, .ref qm_kept, .ref qm_snaps, .ref qm_aside, .ref qm_name, .ref qm_readName, .ref qm_keptName, .ref qm_isKept, .ref qm_onces, .int qm_snapMany, .ref qm_order, .ref qm_ordered, .int qm_orderMany, .int qm_orderMost, .int qm_passing, .int qm_movedWho, .int qm_scratched, .ref qm_text, .int qm_texts, .int qm_seed, .ref qm_line, .ref qm_written, .int qm_lineMany, .int qm_hasWritten, .ref qm_node, .int qm_nodes, .int qm_onesMany, .int qm_within, .int qm_top])), (qm_now, eI G 339 qm_now_c)] H _ := hw
      have hf6 : 0 ≤ a2.toInt := by first | exact hf6 | (have e0 : (0 : Int32).toInt = 0 := rfl; omega)
      have hf7 : a2.toInt ≤ 3 := by first | exact hf7 | (have e0 : (3 : Int32).toInt = 3 := rfl; omega)
      refine lv_if_eq (tgt := 41) C.1 C.2.1 dX11_row_19 (by decide) (fun h9 => absurd h9 (by decide)) (fun _ => ?_)
      refine lv_iload_n C.1 C.2.1 dX11_row_22 rfl (lv_at hl 3 rfl) ?_
      refine lv_iconst (v := 0) C.1 C.2.1 dX11_row_23 (by decide) ?_
      refine lv_iconst (v := 1) C.1 C.2.1 dX11_row_24 (by decide) ?_
      refine x_calliS (As := [.int a3, .int 0, .int 1]) (rest := []) (wr := [(qm, .inr (10, [.int 0, .ref qm_tape, .int qm_taped, .int qm_size, .int qm_limit, .int qm_to, .int qm_from, .int qm_kind, .int qm_number, .int qm_sign, .int qm_fault, .int qm_place, .long qm_word, .int qm_told, .ref qm_now, .ref qm_read, .ref qm_kept, .ref qm_snaps, .ref qm_aside, .ref qm_name, .ref qm_readName, .ref qm_keptName, .ref qm_isKept, .ref qm_onces, .int qm_snapMany, .ref qm_order, .ref qm_ordered, .int qm_orderMany, .int qm_orderMost, .int qm_passing, .int qm_movedWho, .int qm_scratched, .ref qm_text, .int qm_texts, .int qm_seed, .ref qm_line, .ref qm_written, .int qm_lineMany, .int qm_hasWritten, .ref qm_node, .int qm_nodes, .int qm_onesMany, .int qm_within, .int qm_top])), (qm_now, eI G 339 qm_now_c)]) C hw (s_X11_isIn a3 0 1) mwX11_isIn kw1396 [] [0, 1] rfl rfl rfl rfl (by decide) rfl hl.1 rfl (Nat.le_of_ble_eq_true rfl) ⟨(Nat.le_of_ble_eq_true rfl), (Nat.le_of_ble_eq_true rfl)⟩ ⟨(Nat.le_of_ble_eq_true rfl), (Nat.le_of_ble_eq_true rfl)⟩ dX11_row_25 (fun r8 u9 H locs hp9 hw => ?_)
      rcases hp9 with ⟨rfl, rfl, hf9⟩ | ⟨rfl, rfl, hf10, hf11⟩
      · skip
        have hw : Wd G s A [(qm, .inr (10, [.int 0, .ref qm_tape, .int qm_taped, .int qm_size, .int qm_limit, .int qm_to, .int qm_from, .int qm_kind, .int qm_number, .int qm_sign, .int qm_fault, .int qm_place, .long qm_word, .int qm_told, .ref qm_now, .ref qm_read, .ref qm_kept, .ref qm_snaps, .ref qm_aside, .ref qm_name, .ref qm_readName, .ref qm_keptName, .ref qm_isKept, .ref qm_onces, .int qm_snapMany, .ref qm_order, .ref qm_ordered, .int qm_orderMany, .int qm_orderMost, .int qm_passing, .int qm_movedWho, .int qm_scratched, .ref qm_text, .int qm_texts, .int qm_seed, .ref qm_line, .ref qm_written, .int qm_lineMany, .int qm_hasWritten, .ref qm_node, .int qm_nodes, .int qm_onesMany, .int qm_within, .int qm_top])), (qm_now, eI G 339 qm_now_c)] H _ := hw
        have hf9 : a3.toInt < 0 ∨ 1 < a3.toInt := by first | exact hf9 | (have e0 : (0 : Int32).toInt = 0 := rfl; have e1 : (1 : Int32).toInt = 1 := rfl; omega)
        refine lv_if_eq (tgt := 41) C.1 C.2.1 dX11_row_28 (by decide) (fun _ => ?_) (fun h9 => absurd (by decide) h9)
        refine lv_iconst (v := (-1)) C.1 C.2.1 dX11_row_41 (by decide) ?_
        exact x_retiQ hQ B hw ⟨(-1), rfl, rfl⟩ (Nat.le_of_ble_eq_true rfl) (Nat.le_of_ble_eq_true rfl) dX11_row_42
      · skip
        have hw : Wd G s A [(qm, .inr (10, [.int 0, .ref qm_tape, .int qm_taped, .int qm_size, .int qm_limit, .int qm_to, .int qm_from, .int qm_kind, .int qm_number, .int qm_sign, .int qm_fault, .int qm_place, .long qm_word, .int qm_told, .ref qm_now, .ref qm_read, .ref qm_kept, .ref qm_snaps, .ref qm_aside, .ref qm_name, .ref qm_readName, .ref qm_keptName, .ref qm_isKept, .ref qm_onces, .int qm_snapMany, .ref qm_order, .ref qm_ordered, .int qm_orderMany, .int qm_orderMost, .int qm_passing, .int qm_movedWho, .int qm_scratched, .ref qm_text, .int qm_texts, .int qm_seed, .ref qm_line, .ref qm_written, .int qm_lineMany, .int qm_hasWritten, .ref qm_node, .int qm_nodes, .int qm_onesMany, .int qm_within, .int qm_top])), (qm_now, eI G 339 qm_now_c)] H _ := hw
        have hf10 : 0 ≤ a3.toInt := by first | exact hf10 | (have e0 : (0 : Int32).toInt = 0 := rfl; omega)
        have hf11 : a3.toInt ≤ 1 := by first | exact hf11 | (have e0 : (1 : Int32).toInt = 1 := rfl; omega)
        refine lv_if_eq (tgt := 41) C.1 C.2.1 dX11_row_28 (by decide) (fun h9 => absurd h9 (by decide)) (fun _ => ?_)
        refine lv_iload C.1 C.2.1 dX11_row_31 (lv_at hl 4 rfl) ?_
        refine lv_iconst (v := 0) C.1 C.2.1 dX11_row_33 (by decide) ?_
        refine lv_iconst (v := 3) C.1 C.2.1 dX11_row_34 (by decide) ?_
        refine x_calliS (As := [.int a4, .int 0, .int 3]) (rest := []) (wr := [(qm, .inr (10, [.int 0, .ref qm_tape, .int qm_taped, .int qm_size, .int qm_limit, .int qm_to, .int qm_from, .int qm_kind, .int qm_number, .int qm_sign, .int qm_fault, .int qm_place, .long qm_word, .int qm_told, .ref qm_now, .ref qm_read, .ref qm_kept, .ref qm_snaps, .ref qm_aside, .ref qm_name, .ref qm_readName, .ref qm_keptName, .ref qm_isKept, .ref qm_onces, .int qm_snapMany, .ref qm_order, .ref qm_ordered, .int qm_orderMany, .int qm_orderMost, .int qm_passing, .int qm_movedWho, .int qm_scratched, .ref qm_text, .int qm_texts, .int qm_seed, .ref qm_line, .ref qm_written, .int qm_lineMany, .int qm_hasWritten, .ref qm_node, .int qm_nodes, .int qm_onesMany, .int qm_within, .int qm_top])), (qm_now, eI G 339 qm_now_c)]) C hw (s_X11_isIn a4 0 3) mwX11_isIn kw1396 [] [0, 1] rfl rfl rfl rfl (by decide) rfl hl.1 rfl (Nat.le_of_ble_eq_true rfl) ⟨(Nat.le_of_ble_eq_true rfl), (Nat.le_of_ble_eq_true rfl)⟩ ⟨(Nat.le_of_ble_eq_true rfl), (Nat.le_of_ble_eq_true rfl)⟩ dX11_row_35 (fun r12 u9 H locs hp9 hw => ?_)
        rcases hp9 with ⟨rfl, rfl, hf13⟩ | ⟨rfl, rfl, hf14, hf15⟩
        · skip
          have hw : Wd G s A [(qm, .inr (10, [.int 0, .ref qm_tape, .int qm_taped, .int qm_size, .int qm_limit, .int qm_to, .int qm_from, .int qm_kind, .int qm_number, .int qm_sign, .int qm_fault, .int qm_place, .long qm_word, .int qm_told, .ref qm_now, .ref qm_read, .ref qm_kept, .ref qm_snaps, .ref qm_aside, .ref qm_name, .ref qm_readName, .ref qm_keptName, .ref qm_isKept, .ref qm_onces, .int qm_snapMany, .ref qm_order, .ref qm_ordered, .int qm_orderMany, .int qm_orderMost, .int qm_passing, .int qm_movedWho, .int qm_scratched, .ref qm_text, .int qm_texts, .int qm_seed, .ref qm_line, .ref qm_written, .int qm_lineMany, .int qm_hasWritten, .ref qm_node, .int qm_nodes, .int qm_onesMany, .int qm_within, .int qm_top])), (qm_now, eI G 339 qm_now_c)] H _ := hw
          have hf13 : a4.toInt < 0 ∨ 3 < a4.toInt := by first | exact hf13 | (have e0 : (0 : Int32).toInt = 0 := rfl; have e1 : (3 : Int32).toInt = 3 := rfl; omega)
          refine lv_if_ne (tgt := 43) C.1 C.2.1 dX11_row_38 (by decide) (fun h9 => absurd (by decide) h9) (fun _ => ?_)
          refine lv_iconst (v := (-1)) C.1 C.2.1 dX11_row_41 (by decide) ?_
          exact x_retiQ hQ B hw ⟨(-1), rfl, rfl⟩ (Nat.le_of_ble_eq_true rfl) (Nat.le_of_ble_eq_true rfl) dX11_row_42
        · skip
          have hw : Wd G s A [(qm, .inr (10, [.int 0, .ref qm_tape, .int qm_taped, .int qm_size, .int qm_limit, .int qm_to, .int qm_from, .int qm_kind, .int qm_number, .int qm_sign, .int qm_fault, .int qm_place, .long qm_word, .int qm_told, .ref qm_now, .ref qm_read, .ref qm_kept, .ref qm_snaps, .ref qm_aside, .ref qm_name, .ref qm_readName, .ref qm_keptName, .ref qm_isKept, .ref qm_onces, .int qm_snapMany, .ref qm_order, .ref qm_ordered, .int qm_orderMany, .int qm_orderMost, .int qm_passing, .int qm_movedWho, .int qm_scratched, .ref qm_text, .int qm_texts, .int qm_seed, .ref qm_line, .ref qm_written, .int qm_lineMany, .int qm_hasWritten, .ref qm_node, .int qm_nodes, .int qm_onesMany, .int qm_within, .int qm_top])), (qm_now, eI G 339 qm_now_c)] H _ := hw
          have hf14 : 0 ≤ a4.toInt := by first | exact hf14 | (have e0 : (0 : Int32).toInt = 0 := rfl; omega)
          have hf15 : a4.toInt ≤ 3 := by first | exact hf15 | (have e0 : (3 : Int32).toInt = 3 := rfl; omega)
          refine lv_if_ne (tgt := 43) C.1 C.2.1 dX11_row_38 (by decide) (fun _ => ?_) (fun h9 => absurd h9 (by decide))
          refine lv_aload_n C.1 C.2.1 dX11_row_43 rfl (lv_at hl 0 rfl) ?_
          refine x_get C hw iwX11 10 rfl 0 rfl 14 (by decide) kw1207 rfl dX11_row_44 ?_
          refine lv_bipush (v := 69) C.1 C.2.1 dX11_row_47 (by decide) ?_
          refine lv_iload_n C.1 C.2.1 dX11_row_49 rfl (lv_at hl 1 rfl) ?_
          refine lv_iadd C.1 C.2.1 dX11_row_50 (x_genP (fun z : Int32 => z.toInt = 69 + a1.toInt) (i_add (X := 69) (Y := a1.toInt) rfl rfl (by omega) (by omega)) (fun v16 hv16 => ?_))
          refine x_iald (v := (qm_now_c v16.toNatClampNeg)) C hw 1 rfl (i_in (by omega) (by omega)) rfl dX11_row_51 (x_gen (fun v17 => ?_))
          refine lv_iload_n C.1 C.2.1 dX11_row_52 rfl (lv_at hl 2 rfl) ?_
          refine x_calliS (As := [.int v17, .int a2]) (rest := []) (wr := [(qm, .inr (10, [.int 0, .ref qm_tape, .int qm_taped, .int qm_size, .int qm_limit, .int qm_to, .int qm_from, .int qm_kind, .int qm_number, .int qm_sign, .int qm_fault, .int qm_place, .long qm_word, .int qm_told, .ref qm_now, .ref qm_read, .ref qm_kept, .ref qm_snaps, .ref qm_aside, .ref qm_name, .ref qm_readName, .ref qm_keptName, .ref qm_isKept, .ref qm_onces, .int qm_snapMany, .ref qm_order, .ref qm_ordered, .int qm_orderMany, .int qm_orderMost, .int qm_passing, .int qm_movedWho, .int qm_scratched, .ref qm_text, .int qm_texts, .int qm_seed, .ref qm_line, .ref qm_written, .int qm_lineMany, .int qm_hasWritten, .ref qm_node, .int qm_nodes, .int qm_onesMany, .int qm_within, .int qm_top])), (qm_now, eI G 339 qm_now_c)]) C hw (s_X11_turned v17 a2) mwX11_turned kw1491 [] [0, 1] rfl rfl rfl rfl (by decide) rfl hl.1 rfl (Nat.le_of_ble_eq_true rfl) ⟨(Nat.le_of_ble_eq_true rfl), (Nat.le_of_ble_eq_true rfl)⟩ ⟨(Nat.le_of_ble_eq_true rfl), (Nat.le_of_ble_eq_true rfl)⟩ dX11_row_53 (fun r18 u9 H locs hp9 hw => ?_)
          obtain ⟨x19, rfl, rfl⟩ := hp9
          have hw : Wd G s A [(qm, .inr (10, [.int 0, .ref qm_tape, .int qm_taped, .int qm_size, .int qm_limit, .int qm_to, .int qm_from, .int qm_kind, .int qm_number, .int qm_sign, .int qm_fault, .int qm_place, .long qm_word, .int qm_told, .ref qm_now, .ref qm_read, .ref qm_kept, .ref qm_snaps, .ref qm_aside, .ref qm_name, .ref qm_readName, .ref qm_keptName, .ref qm_isKept, .ref qm_onces, .int qm_snapMany, .ref qm_order, .ref qm_ordered, .int qm_orderMany, .int qm_orderMost, .int qm_passing, .int qm_movedWho, .int qm_scratched, .ref qm_text, .int qm_texts, .int qm_seed, .ref qm_line, .ref qm_written, .int qm_lineMany, .int qm_hasWritten, .ref qm_node, .int qm_nodes, .int qm_onesMany, .int qm_within, .int qm_top])), (qm_now, eI G 339 qm_now_c)] H _ := hw
          refine lv_iload_n C.1 C.2.1 dX11_row_56 rfl (lv_at hl 3 rfl) ?_
          refine x_calliS (As := [.int r18, .int a3]) (rest := []) (wr := [(qm, .inr (10, [.int 0, .ref qm_tape, .int qm_taped, .int qm_size, .int qm_limit, .int qm_to, .int qm_from, .int qm_kind, .int qm_number, .int qm_sign, .int qm_fault, .int qm_place, .long qm_word, .int qm_told, .ref qm_now, .ref qm_read, .ref qm_kept, .ref qm_snaps, .ref qm_aside, .ref qm_name, .ref qm_readName, .ref qm_keptName, .ref qm_isKept, .ref qm_onces, .int qm_snapMany, .ref qm_order, .ref qm_ordered, .int qm_orderMany, .int qm_orderMost, .int qm_passing, .int qm_movedWho, .int qm_scratched, .ref qm_text, .int qm_texts, .int qm_seed, .ref qm_line, .ref qm_written, .int qm_lineMany, .int qm_hasWritten, .ref qm_node, .int qm_nodes, .int qm_onesMany, .int qm_within, .int qm_top])), (qm_now, eI G 339 qm_now_c)]) C hw (s_X11_seenFrom r18 a3) mwX11_seenFrom kw1494 [] [0, 1] rfl rfl rfl rfl (by decide) rfl hl.1 rfl (Nat.le_of_ble_eq_true rfl) ⟨(Nat.le_of_ble_eq_true rfl), (Nat.le_of_ble_eq_true rfl)⟩ ⟨(Nat.le_of_ble_eq_true rfl), (Nat.le_of_ble_eq_true rfl)⟩ dX11_row_57 (fun r20 u9 H locs hp9 hw => ?_)
          obtain ⟨x21, rfl, rfl⟩ := hp9
          have hw : Wd G s A [(qm, .inr (10, [.int 0, .ref qm_tape, .int qm_taped, .int qm_size, .int qm_limit, .int qm_to, .int qm_from, .int qm_kind, .int qm_number, .int qm_sign, .int qm_fault, .int qm_place, .long qm_word, .int qm_told, .ref qm_now, .ref qm_read, .ref qm_kept, .ref qm_snaps, .ref qm_aside, .ref qm_name, .ref qm_readName, .ref qm_keptName, .ref qm_isKept, .ref qm_onces, .int qm_snapMany, .ref qm_order, .ref qm_ordered, .int qm_orderMany, .int qm_orderMost, .int qm_passing, .int qm_movedWho, .int qm_scratched, .ref qm_text, .int qm_texts, .int qm_seed, .ref qm_line, .ref qm_written, .int qm_lineMany, .int qm_hasWritten, .ref qm_node, .int qm_nodes, .int qm_onesMany, .int qm_within, .int qm_top])), (qm_now, eI G 339 qm_now_c)] H _ := hw
          refine lv_iload C.1 C.2.1 dX11_row_60 (lv_at hl 4 rfl) ?_
          refine x_calliS (As := [.int r20, .int a4]) (rest := []) (wr := [(qm, .inr (10, [.int 0, .ref qm_tape, .int qm_taped, .int qm_size, .int qm_limit, .int qm_to, .int qm_from, .int qm_kind, .int qm_number, .int qm_sign, .int qm_fault, .int qm_place, .long qm_word, .int qm_told, .ref qm_now, .ref qm_read, .ref qm_kept, .ref qm_snaps, .ref qm_aside, .ref qm_name, .ref qm_readName, .ref qm_keptName, .ref qm_isKept, .ref qm_onces, .int qm_snapMany, .ref qm_order, .ref qm_ordered, .int qm_orderMany, .int qm_orderMost, .int qm_passing, .int qm_movedWho, .int qm_scratched, .ref qm_text, .int qm_texts, .int qm_seed, .ref qm_line, .ref qm_written, .int qm_lineMany, .int qm_hasWritten, .ref qm_node, .int qm_nodes, .int qm_onesMany, .int qm_within, .int qm_top])), (qm_now, eI G 339 qm_now_c)]) C hw (s_X11_rowOf r20 a4) mwX11_rowOf kw1473 [] [0, 1] rfl rfl rfl rfl (by decide) rfl hl.1 rfl (Nat.le_of_ble_eq_true rfl) ⟨(Nat.le_of_ble_eq_true rfl), (Nat.le_of_ble_eq_true rfl)⟩ ⟨(Nat.le_of_ble_eq_true rfl), (Nat.le_of_ble_eq_true rfl)⟩ dX11_row_62 (fun r22 u9 H locs hp9 hw => ?_)
          obtain ⟨x23, rfl, rfl⟩ := hp9
          have hw : Wd G s A [(qm, .inr (10, [.int 0, .ref qm_tape, .int qm_taped, .int qm_size, .int qm_limit, .int qm_to, .int qm_from, .int qm_kind, .int qm_number, .int qm_sign, .int qm_fault, .int qm_place, .long qm_word, .int qm_told, .ref qm_now, .ref qm_read, .ref qm_kept, .ref qm_snaps, .ref qm_aside, .ref qm_name, .ref qm_readName, .ref qm_keptName, .ref qm_isKept, .ref qm_onces, .int qm_snapMany, .ref qm_order, .ref qm_ordered, .int qm_orderMany, .int qm_orderMost, .int qm_passing, .int qm_movedWho, .int qm_scratched, .ref qm_text, .int qm_texts, .int qm_seed, .ref qm_line, .ref qm_written, .int qm_lineMany, .int qm_hasWritten, .ref qm_node, .int qm_nodes, .int qm_onesMany, .int qm_within, .int qm_top])), (qm_now, eI G 339 qm_now_c)] H _ := hw
          exact x_retiQ hQ B hw ⟨r22, rfl, rfl⟩ (Nat.le_of_ble_eq_true rfl) (Nat.le_of_ble_eq_true rfl) dX11_row_65
theorem dX11_hearer_0 : decode cX11_hearer 0 = .ok (.aload_n 0, 1) := by decide +kernel
theorem dX11_hearer_1 : decode cX11_hearer 1 = .ok (.iconst 0, 1) := by decide +kernel
theorem dX11_hearer_2 : decode cX11_hearer 2 = .ok (.putfield 1, 3) := by decide +kernel
theorem dX11_hearer_5 : decode cX11_hearer 5 = .ok (.aload_n 0, 1) := by decide +kernel
theorem dX11_hearer_6 : decode cX11_hearer 6 = .ok (.iload_n 1, 1) := by decide +kernel
theorem dX11_hearer_7 : decode cX11_hearer 7 = .ok (.invokevirtual 258, 3) := by decide +kernel
theorem mwX11_isHearer : MwV yX11_isHearer cX11_isHearer 2 (some .boolean) 1 := ⟨⟨kw1504, kw15, by decide +kernel⟩, kw1503, kS74⟩
theorem dX11_hearer_10 : decode cX11_hearer 10 = .ok (.ifCond .ne 8, 3) := by decide +kernel
theorem dX11_hearer_13 : decode cX11_hearer 13 = .ok (.aload_n 0, 1) := by decide +kernel
theorem dX11_hearer_14 : decode cX11_hearer 14 = .ok (.invokevirtual 240, 3) := by decide +kernel
theorem dX11_hearer_17 : decode cX11_hearer 17 = .ok (.ireturn, 1) := by decide +kernel
theorem dX11_hearer_18 : decode cX11_hearer 18 = .ok (.iload_n 2, 1) := by decide +kernel
theorem dX11_hearer_19 : decode cX11_hearer 19 = .ok (.tableswitch 103 0 5 #[37, 47, 57, 70, 83, 93], 37) := by decide +kernel
theorem dX11_hearer_56 : decode cX11_hearer 56 = .ok (.aload_n 0, 1) := by decide +kernel
theorem dX11_hearer_57 : decode cX11_hearer 57 = .ok (.getfield 98, 3) := by decide +kernel
theorem dX11_hearer_60 : decode cX11_hearer 60 = .ok (.bipush 81, 2) := by decide +kernel
theorem dX11_hearer_62 : decode cX11_hearer 62 = .ok (.iload_n 1, 1) := by decide +kernel
theorem dX11_hearer_63 : decode cX11_hearer 63 = .ok (.iadd, 1) := by decide +kernel
theorem dX11_hearer_64 : decode cX11_hearer 64 = .ok (.iaload, 1) := by decide +kernel
theorem dX11_hearer_65 : decode cX11_hearer 65 = .ok (.ireturn, 1) := by decide +kernel
theorem dX11_hearer_66 : decode cX11_hearer 66 = .ok (.aload_n 0, 1) := by decide +kernel
theorem dX11_hearer_67 : decode cX11_hearer 67 = .ok (.getfield 98, 3) := by decide +kernel
theorem dX11_hearer_70 : decode cX11_hearer 70 = .ok (.bipush 32, 2) := by decide +kernel
theorem dX11_hearer_72 : decode cX11_hearer 72 = .ok (.iload_n 1, 1) := by decide +kernel
theorem dX11_hearer_73 : decode cX11_hearer 73 = .ok (.iadd, 1) := by decide +kernel
theorem dX11_hearer_74 : decode cX11_hearer 74 = .ok (.iaload, 1) := by decide +kernel
theorem dX11_hearer_75 : decode cX11_hearer 75 = .ok (.ireturn, 1) := by decide +kernel
theorem dX11_hearer_76 : decode cX11_hearer 76 = .ok (.aload_n 0, 1) := by decide +kernel
theorem dX11_hearer_77 : decode cX11_hearer 77 = .ok (.getfield 98, 3) := by decide +kernel
theorem dX11_hearer_80 : decode cX11_hearer 80 = .ok (.bipush 40, 2) := by decide +kernel
theorem dX11_hearer_82 : decode cX11_hearer 82 = .ok (.iload_n 1, 1) := by decide +kernel
theorem dX11_hearer_83 : decode cX11_hearer 83 = .ok (.iadd, 1) := by decide +kernel
theorem dX11_hearer_84 : decode cX11_hearer 84 = .ok (.iaload, 1) := by decide +kernel
theorem dX11_hearer_85 : decode cX11_hearer 85 = .ok (.invokestatic 252, 3) := by decide +kernel
theorem dX11_hearer_88 : decode cX11_hearer 88 = .ok (.ireturn, 1) := by decide +kernel
theorem dX11_hearer_89 : decode cX11_hearer 89 = .ok (.aload_n 0, 1) := by decide +kernel
theorem dX11_hearer_90 : decode cX11_hearer 90 = .ok (.getfield 98, 3) := by decide +kernel
theorem dX11_hearer_93 : decode cX11_hearer 93 = .ok (.bipush 48, 2) := by decide +kernel
theorem dX11_hearer_95 : decode cX11_hearer 95 = .ok (.iload_n 1, 1) := by decide +kernel
theorem dX11_hearer_96 : decode cX11_hearer 96 = .ok (.iadd, 1) := by decide +kernel
theorem dX11_hearer_97 : decode cX11_hearer 97 = .ok (.iaload, 1) := by decide +kernel
theorem dX11_hearer_98 : decode cX11_hearer 98 = .ok (.invokestatic 252, 3) := by decide +kernel
theorem dX11_hearer_101 : decode cX11_hearer 101 = .ok (.ireturn, 1) := by decide +kernel
theorem dX11_hearer_102 : decode cX11_hearer 102 = .ok (.aload_n 0, 1) := by decide +kernel
theorem dX11_hearer_103 : decode cX11_hearer 103 = .ok (.getfield 98, 3) := by decide +kernel
theorem dX11_hearer_106 : decode cX11_hearer 106 = .ok (.bipush 89, 2) := by decide +kernel
theorem dX11_hearer_108 : decode cX11_hearer 108 = .ok (.iload_n 1, 1) := by decide +kernel
theorem dX11_hearer_109 : decode cX11_hearer 109 = .ok (.iadd, 1) := by decide +kernel
theorem dX11_hearer_110 : decode cX11_hearer 110 = .ok (.iaload, 1) := by decide +kernel
theorem dX11_hearer_111 : decode cX11_hearer 111 = .ok (.ireturn, 1) := by decide +kernel
theorem dX11_hearer_112 : decode cX11_hearer 112 = .ok (.aload_n 0, 1) := by decide +kernel
theorem dX11_hearer_113 : decode cX11_hearer 113 = .ok (.getfield 98, 3) := by decide +kernel
theorem dX11_hearer_116 : decode cX11_hearer 116 = .ok (.bipush 56, 2) := by decide +kernel
theorem dX11_hearer_118 : decode cX11_hearer 118 = .ok (.iload_n 1, 1) := by decide +kernel
theorem dX11_hearer_119 : decode cX11_hearer 119 = .ok (.iadd, 1) := by decide +kernel
theorem dX11_hearer_120 : decode cX11_hearer 120 = .ok (.iaload, 1) := by decide +kernel
theorem dX11_hearer_121 : decode cX11_hearer 121 = .ok (.ireturn, 1) := by decide +kernel
theorem dX11_hearer_122 : decode cX11_hearer 122 = .ok (.aload_n 0, 1) := by decide +kernel
theorem dX11_hearer_123 : decode cX11_hearer 123 = .ok (.invokevirtual 240, 3) := by decide +kernel
theorem dX11_hearer_126 : decode cX11_hearer 126 = .ok (.ireturn, 1) := by decide +kernel
set_option maxHeartbeats 4000000 in
set_option maxRecDepth 100000 in
theorem s_X11_hearer {l : Launch} {G : Gc} (qm : Nat) (a1 : Int32) (a2 : Int32) (qm_thrown : Int32) (qm_tape : Nat) (qm_taped : Int32) (qm_size : Int32) (qm_limit : Int32) (qm_to : Int32) (qm_from : Int32) (qm_kind : Int32) (qm_number : Int32) (qm_sign : Int32) (qm_fault : Int32) (qm_place : Int32) (qm_word : Int64) (qm_told : Int32) (qm_now : Nat) (qm_read : Nat) (qm_kept : Nat) (qm_snaps : Nat) (qm_aside : Nat) (qm_name : Nat) (qm_readName : Nat) (qm_keptName : Nat) (qm_isKept : Nat) (qm_onces : Nat) (qm_snapMany : Int32) (qm_order : Nat) (qm_ordered : Nat) (qm_orderMany : Int32) (qm_orderMost : Int32) (qm_passing : Int32) (qm_movedWho : Int32) (qm_scratched : Int32) (qm_text : Nat) (qm_texts : Int32) (qm_seed : Int32) (qm_line : Nat) (qm_written : Nat) (qm_lineMany : Int32) (qm_hasWritten : Int32) (qm_node : Nat) (qm_nodes : Int32) (qm_onesMany : Int32) (qm_within : Int32) (qm_top : Int32) (qm_now_c : Nat → Int32) (hf_qm_now_c : slI qm_now_c) (hf1_qm_now_c : trI qm_now_c) : Ci l yX11_hearer cX11_hearer 3 (some .int) 2 0 0 G [.ref qm, .int a1, .int a2] [(qm, .inr (10, [.int qm_thrown, .ref qm_tape, .int qm_taped, .int qm_size, .int qm_limit, .int qm_to, .int qm_from, .int qm_kind, .int qm_number, .int qm_sign, .int qm_fault, .int qm_place, .long qm_word, .int qm_told, .ref qm_now, .ref qm_read, .ref qm_kept, .ref qm_snaps, .ref qm_aside, .ref qm_name, .ref qm_readName, .ref qm_keptName, .ref qm_isKept, .ref qm_onces, .int qm_snapMany, .ref qm_order, .ref qm_ordered, .int qm_orderMany, .int qm_orderMost, .int qm_passing, .int qm_movedWho, .int qm_scratched, .ref qm_text, .int qm_texts, .int qm_seed, .ref qm_line, .ref qm_written, .int qm_lineMany, .int qm_hasWritten, .ref qm_node, .int qm_nodes, .int qm_onesMany, .int qm_within, .int qm_top])), (qm_now, eI G 339 qm_now_c)] (fun (r9 : Int32) (u9 : va_W) => ∃ (x0_qm_thrown : Int32) (r_x : Int32), r9 = r_x ∧ u9 = [(qm, .inr (10, [.int x0_qm_thrown, .ref qm_tape, .int qm_taped, .int qm_size, .int qm_limit, .int qm_to, .int qm_from, .int qm_kind, .int qm_number, .int qm_sign, .int qm_fault, .int qm_place, .long qm_word, .int qm_told, .ref qm_now, .ref qm_read, .ref qm_kept, .ref qm_snaps, .ref qm_aside, .ref qm_name, .ref qm_readName, .ref qm_keptName, .ref qm_isKept, .ref qm_onces, .int qm_snapMany, .ref qm_order, .ref qm_ordered, .int qm_orderMany, .int qm_orderMost, .int qm_passing, .int qm_movedWho, .int qm_scratched, .ref qm_text, .int qm_texts, .int qm_seed, .ref qm_line, .ref qm_written, .int qm_lineMany, .int qm_hasWritten, .ref qm_node, .int qm_nodes, .int qm_onesMany, .int qm_within, .int qm_top])), (qm_now, eI G 339 qm_now_c)] ∧ (0 ≤ x0_qm_thrown.toInt ∧ x0_qm_thrown.toInt ≤ 1)) := by
  refine Ci.ofQ (by decide) (Nat.le_of_ble_eq_true rfl) ?_
  intro p e s m below meth c ls A args Q hQ B hw hl
  have C : CallFix p m c cX11_hearer 3 s args gw "LanternStateModel" := B.1
  have hl : lv_has ls 3 [(0, .ref qm), (1, .int a1), (2, .int a2)] := hl
  refine lv_aload_n C.1 C.2.1 dX11_hearer_0 rfl (lv_at hl 0 rfl) ?_
  refine lv_iconst (v := 0) C.1 C.2.1 dX11_hearer_1 (by decide) ?_
  refine x_put (w' := [(qm, .inr (10, [.int 0, .ref qm_tape, .int qm_taped, .int qm_size, .int qm_limit, .int qm_to, .int qm_from, .int qm_kind, .int qm_number, .int qm_sign, .int qm_fault, .int qm_place, .long qm_word, .int qm_told, .ref qm_now, .ref qm_read, .ref qm_kept, .ref qm_snaps, .ref qm_aside, .ref qm_name, .ref qm_readName, .ref qm_keptName, .ref qm_isKept, .ref qm_onces, .int qm_snapMany, .ref qm_order, .ref qm_ordered, .int qm_orderMany, .int qm_orderMost, .int qm_passing, .int qm_movedWho, .int qm_scratched, .ref qm_text, .int qm_texts, .int qm_seed, .ref qm_line, .ref qm_written, .int qm_lineMany, .int qm_hasWritten, .ref qm_node, .int qm_nodes, .int qm_onesMany, .int qm_within, .int qm_top])), (qm_now, eI G 339 qm_now_c)]) C hw iwX11 tyX11_ok nmX11 10 rfl 0 rfl 0 (by decide) kw1193 rfl rfl rfl (Nat.le_of_ble_eq_true rfl) rfl dX11_hearer_2 (fun H locs hw => ?_)
  refine lv_aload_n C.1 C.2.1 dX11_hearer_5 rfl (lv_at hl 0 rfl) ?_
  refine lv_iload_n C.1 C.2.1 dX11_hearer_6 rfl (lv_at hl 1 rfl) ?_
  refine x_calliV (As := [.int a1]) (rest := []) (wr := []) C hw (s_X11_isHearer qm a1 0 qm_tape qm_taped qm_size qm_limit qm_to qm_from qm_kind qm_number qm_sign qm_fault qm_place qm_word qm_told qm_now qm_read qm_kept qm_snaps qm_aside qm_name qm_readName qm_keptName qm_isKept qm_onces qm_snapMany qm_order qm_ordered qm_orderMany qm_orderMost qm_passing qm_movedWho qm_scratched qm_text qm_texts qm_seed qm_line qm_written qm_lineMany qm_hasWritten qm_node qm_nodes qm_onesMany qm_within qm_top qm_now_c hf_qm_now_c hf1_qm_now_c) mwX11_isHearer kw1501 [0, 1] [] rfl rfl rfl rfl (by decide) 0 rfl rfl rfl rfl hl.1 rfl (Nat.le_of_ble_eq_true rfl) ⟨(Nat.le_of_ble_eq_true rfl), (Nat.le_of_ble_eq_true rfl)⟩ ⟨(Nat.le_of_ble_eq_true rfl), (Nat.le_of_ble_eq_true rfl)⟩ dX11_hearer_7 (fun r1 u9 H locs hp9 hw => ?_)
  rcases hp9 with ⟨rfl, rfl⟩ | ⟨rfl, rfl, hf2⟩
  · skip
    have hw : Wd G s A [(qm, .inr (10, [.int 0, .ref qm_tape, .int qm_taped, .int qm_size, .int qm_limit, .int qm_to, .int qm_from, .int qm_kind, .int qm_number, .int qm_sign, .int qm_fault, .int qm_place, .long qm_word, .int qm_told, .ref qm_now, .ref qm_read, .ref qm_kept, .ref qm_snaps, .ref qm_aside, .ref qm_name, .ref qm_readName, .ref qm_keptName, .ref qm_isKept, .ref qm_onces, .int qm_snapMany, .ref qm_order, .ref qm_ordered, .int qm_orderMany, .int qm_orderMost, .int qm_passing, .int qm_movedWho, .int qm_scratched, .ref qm_text, .int qm_texts, .int qm_seed, .ref qm_line, .ref qm_written, .int qm_lineMany, .int qm_hasWritten, .ref qm_node, .int qm_nodes, .int qm_onesMany, .int qm_within, .int qm_top])), (qm_now, eI G 339 qm_now_c)] H _ := hw
    refine lv_if_ne (tgt := 18) C.1 C.2.1 dX11_hearer_10 (by decide) (fun h9 => absurd (by decide) h9) (fun _ => ?_)
    refine lv_aload_n C.1 C.2.1 dX11_hearer_13 rfl (lv_at hl 0 rfl) ?_
    refine x_calliV (As := []) (rest := []) (wr := [(qm_now, eI G 339 qm_now_c)]) C hw (s_X11_refuse qm 0 qm_tape qm_taped qm_size qm_limit qm_to qm_from qm_kind qm_number qm_sign qm_fault qm_place qm_word qm_told qm_now qm_read qm_kept qm_snaps qm_aside qm_name qm_readName qm_keptName qm_isKept qm_onces qm_snapMany qm_order qm_ordered qm_orderMany qm_orderMost qm_passing qm_movedWho qm_scratched qm_text qm_texts qm_seed qm_line qm_written qm_lineMany qm_hasWritten qm_node qm_nodes qm_onesMany qm_within qm_top) mwX11_refuse kw1469 [0] [1] rfl rfl rfl rfl (by decide) 0 rfl rfl rfl rfl hl.1 rfl (Nat.le_of_ble_eq_true rfl) ⟨(Nat.le_of_ble_eq_true rfl), (Nat.le_of_ble_eq_true rfl)⟩ ⟨(Nat.le_of_ble_eq_true rfl), (Nat.le_of_ble_eq_true rfl)⟩ dX11_hearer_14 (fun r3 u9 H locs hp9 hw => ?_)
    obtain ⟨rfl, rfl⟩ := hp9
    have hw : Wd G s A [(qm_now, eI G 339 qm_now_c), (qm, .inr (10, [.int 1, .ref qm_tape, .int qm_taped, .int qm_size, .int qm_limit, .int qm_to, .int qm_from, .int qm_kind, .int qm_number, .int qm_sign, .int qm_fault, .int qm_place, .long qm_word, .int qm_told, .ref qm_now, .ref qm_read, .ref qm_kept, .ref qm_snaps, .ref qm_aside, .ref qm_name, .ref qm_readName, .ref qm_keptName, .ref qm_isKept, .ref qm_onces, .int qm_snapMany, .ref qm_order, .ref qm_ordered, .int qm_orderMany, .int qm_orderMost, .int qm_passing, .int qm_movedWho, .int qm_scratched, .ref qm_text, .int qm_texts, .int qm_seed, .ref qm_line, .ref qm_written, .int qm_lineMany, .int qm_hasWritten, .ref qm_node, .int qm_nodes, .int qm_onesMany, .int qm_within, .int qm_top]))] H _ := hw
    have hw := hw.sub (w' := [(qm, .inr (10, [.int 1, .ref qm_tape, .int qm_taped, .int qm_size, .int qm_limit, .int qm_to, .int qm_from, .int qm_kind, .int qm_number, .int qm_sign, .int qm_fault, .int qm_place, .long qm_word, .int qm_told, .ref qm_now, .ref qm_read, .ref qm_kept, .ref qm_snaps, .ref qm_aside, .ref qm_name, .ref qm_readName, .ref qm_keptName, .ref qm_isKept, .ref qm_onces, .int qm_snapMany, .ref qm_order, .ref qm_ordered, .int qm_orderMany, .int qm_orderMost, .int qm_passing, .int qm_movedWho, .int qm_scratched, .ref qm_text, .int qm_texts, .int qm_seed, .ref qm_line, .ref qm_written, .int qm_lineMany, .int qm_hasWritten, .ref qm_node, .int qm_nodes, .int qm_onesMany, .int qm_within, .int qm_top])), (qm_now, eI G 339 qm_now_c)]) [1, 0] rfl rfl
    exact x_retiQ hQ B hw ⟨1, 0, rfl, rfl, (by decide)⟩ (Nat.le_of_ble_eq_true rfl) (Nat.le_of_ble_eq_true rfl) dX11_hearer_17
  · skip
    have hw : Wd G s A [(qm, .inr (10, [.int 0, .ref qm_tape, .int qm_taped, .int qm_size, .int qm_limit, .int qm_to, .int qm_from, .int qm_kind, .int qm_number, .int qm_sign, .int qm_fault, .int qm_place, .long qm_word, .int qm_told, .ref qm_now, .ref qm_read, .ref qm_kept, .ref qm_snaps, .ref qm_aside, .ref qm_name, .ref qm_readName, .ref qm_keptName, .ref qm_isKept, .ref qm_onces, .int qm_snapMany, .ref qm_order, .ref qm_ordered, .int qm_orderMany, .int qm_orderMost, .int qm_passing, .int qm_movedWho, .int qm_scratched, .ref qm_text, .int qm_texts, .int qm_seed, .ref qm_line, .ref qm_written, .int qm_lineMany, .int qm_hasWritten, .ref qm_node, .int qm_nodes, .int qm_onesMany, .int qm_within, .int qm_top])), (qm_now, eI G 339 qm_now_c)] H _ := hw
    refine lv_if_ne (tgt := 18) C.1 C.2.1 dX11_hearer_10 (by decide) (fun _ => ?_) (fun h9 => absurd h9 (by decide))
    refine lv_iload_n C.1 C.2.1 dX11_hearer_18 rfl (lv_at hl 2 rfl) ?_
    have k4 : a2.toInt = 0 ∨ a2.toInt = 1 ∨ a2.toInt = 2 ∨ a2.toInt = 3 ∨ a2.toInt = 4 ∨ a2.toInt = 5 ∨ (a2.toInt ≠ 0 ∧ a2.toInt ≠ 1 ∧ a2.toInt ≠ 2 ∧ a2.toInt ≠ 3 ∧ a2.toInt ≠ 4 ∧ a2.toInt ≠ 5) := by omega
    rcases k4 with k4 | k4 | k4 | k4 | k4 | k4 | k4
    · skip
      have k4 : a2 = 0 := Int32.toInt_inj.mp (by rw [k4]; rfl)
      refine x_topi (z := 0) k4 ?_
      refine lv_tableIn (off := 37) (tgt := 56) C.1 C.2.1 dX11_hearer_19 (by decide) (by decide) rfl (by decide) ?_
      have ha2_ := congrArg Int32.toInt k4
      have ha2_ : a2.toInt = 0 := ha2_
      refine lv_aload_n C.1 C.2.1 dX11_hearer_56 rfl (lv_at hl 0 rfl) ?_
      refine x_get C hw iwX11 10 rfl 0 rfl 14 (by decide) kw1207 rfl dX11_hearer_57 ?_
      refine lv_bipush (v := 81) C.1 C.2.1 dX11_hearer_60 (by decide) ?_
      refine lv_iload_n C.1 C.2.1 dX11_hearer_62 rfl (lv_at hl 1 rfl) ?_
      refine lv_iadd C.1 C.2.1 dX11_hearer_63 (x_genP (fun z : Int32 => z.toInt = 81 + a1.toInt) (i_add (X := 81) (Y := a1.toInt) rfl rfl (by omega) (by omega)) (fun v5 hv5 => ?_))
      refine x_iald (v := (qm_now_c v5.toNatClampNeg)) C hw 1 rfl (i_in (by omega) (by omega)) rfl dX11_hearer_64 (x_gen (fun v6 => ?_))
      exact x_retiQ hQ B hw ⟨0, v6, rfl, rfl, (by decide)⟩ (Nat.le_of_ble_eq_true rfl) (Nat.le_of_ble_eq_true rfl) dX11_hearer_65
    · skip
      have k4 : a2 = 1 := Int32.toInt_inj.mp (by rw [k4]; rfl)
      refine x_topi (z := 1) k4 ?_
      refine lv_tableIn (off := 47) (tgt := 66) C.1 C.2.1 dX11_hearer_19 (by decide) (by decide) rfl (by decide) ?_
      have ha2_ := congrArg Int32.toInt k4
      have ha2_ : a2.toInt = 1 := ha2_
      refine lv_aload_n C.1 C.2.1 dX11_hearer_66 rfl (lv_at hl 0 rfl) ?_
      refine x_get C hw iwX11 10 rfl 0 rfl 14 (by decide) kw1207 rfl dX11_hearer_67 ?_
      refine lv_bipush (v := 32) C.1 C.2.1 dX11_hearer_70 (by decide) ?_
      refine lv_iload_n C.1 C.2.1 dX11_hearer_72 rfl (lv_at hl 1 rfl) ?_
      refine lv_iadd C.1 C.2.1 dX11_hearer_73 (x_genP (fun z : Int32 => z.toInt = 32 + a1.toInt) (i_add (X := 32) (Y := a1.toInt) rfl rfl (by omega) (by omega)) (fun v7 hv7 => ?_))
      refine x_iald (v := (qm_now_c v7.toNatClampNeg)) C hw 1 rfl (i_in (by omega) (by omega)) rfl dX11_hearer_74 (x_gen (fun v8 => ?_))
      exact x_retiQ hQ B hw ⟨0, v8, rfl, rfl, (by decide)⟩ (Nat.le_of_ble_eq_true rfl) (Nat.le_of_ble_eq_true rfl) dX11_hearer_75
    · skip
      have k4 : a2 = 2 := Int32.toInt_inj.mp (by rw [k4]; rfl)
      refine x_topi (z := 2) k4 ?_
      refine lv_tableIn (off := 57) (tgt := 76) C.1 C.2.1 dX11_hearer_19 (by decide) (by decide) rfl (by decide) ?_
      have ha2_ := congrArg Int32.toInt k4
      have ha2_ : a2.toInt = 2 := ha2_
      refine lv_aload_n C.1 C.2.1 dX11_hearer_76 rfl (lv_at hl 0 rfl) ?_
      refine x_get C hw iwX11 10 rfl 0 rfl 14 (by decide) kw1207 rfl dX11_hearer_77 ?_
      refine lv_bipush (v := 40) C.1 C.2.1 dX11_hearer_80 (by decide) ?_
      refine lv_iload_n C.1 C.2.1 dX11_hearer_82 rfl (lv_at hl 1 rfl) ?_
      refine lv_iadd C.1 C.2.1 dX11_hearer_83 (x_genP (fun z : Int32 => z.toInt = 40 + a1.toInt) (i_add (X := 40) (Y := a1.toInt) rfl rfl (by omega) (by omega)) (fun v9 hv9 => ?_))
      refine x_iald (v := (qm_now_c v9.toNatClampNeg)) C hw 1 rfl (i_in (by omega) (by omega)) rfl dX11_hearer_84 (x_gen (fun v10 => ?_))
      refine x_calliS (As := [.int v10]) (rest := []) (wr := [(qm, .inr (10, [.int 0, .ref qm_tape, .int qm_taped, .int qm_size, .int qm_limit, .int qm_to, .int qm_from, .int qm_kind, .int qm_number, .int qm_sign, .int qm_fault, .int qm_place, .long qm_word, .int qm_told, .ref qm_now, .ref qm_read, .ref qm_kept, .ref qm_snaps, .ref qm_aside, .ref qm_name, .ref qm_readName, .ref qm_keptName, .ref qm_isKept, .ref qm_onces, .int qm_snapMany, .ref qm_order, .ref qm_ordered, .int qm_orderMany, .int qm_orderMost, .int qm_passing, .int qm_movedWho, .int qm_scratched, .ref qm_text, .int qm_texts, .int qm_seed, .ref qm_line, .ref qm_written, .int qm_lineMany, .int qm_hasWritten, .ref qm_node, .int qm_nodes, .int qm_onesMany, .int qm_within, .int qm_top])), (qm_now, eI G 339 qm_now_c)]) C hw (s_X11_bits v10) mwX11_bits kw1484 [] [0, 1] rfl rfl rfl rfl (by decide) rfl hl.1 rfl (Nat.le_of_ble_eq_true rfl) ⟨(Nat.le_of_ble_eq_true rfl), (Nat.le_of_ble_eq_true rfl)⟩ ⟨(Nat.le_of_ble_eq_true rfl), (Nat.le_of_ble_eq_true rfl)⟩ dX11_hearer_85 (fun r11 u9 H locs hp9 hw => ?_)
      obtain ⟨x12, rfl, rfl⟩ := hp9
      have hw : Wd G s A [(qm, .inr (10, [.int 0, .ref qm_tape, .int qm_taped, .int qm_size, .int qm_limit, .int qm_to, .int qm_from, .int qm_kind, .int qm_number, .int qm_sign, .int qm_fault, .int qm_place, .long qm_word, .int qm_told, .ref qm_now, .ref qm_read, .ref qm_kept, .ref qm_snaps, .ref qm_aside, .ref qm_name, .ref qm_readName, .ref qm_keptName, .ref qm_isKept, .ref qm_onces, .int qm_snapMany, .ref qm_order, .ref qm_ordered, .int qm_orderMany, .int qm_orderMost, .int qm_passing, .int qm_movedWho, .int qm_scratched, .ref qm_text, .int qm_texts, .int qm_seed, .ref qm_line, .ref qm_written, .int qm_lineMany, .int qm_hasWritten, .ref qm_node, .int qm_nodes, .int qm_onesMany, .int qm_within, .int qm_top])), (qm_now, eI G 339 qm_now_c)] H _ := hw
      exact x_retiQ hQ B hw ⟨0, r11, rfl, rfl, (by decide)⟩ (Nat.le_of_ble_eq_true rfl) (Nat.le_of_ble_eq_true rfl) dX11_hearer_88
    · skip
      have k4 : a2 = 3 := Int32.toInt_inj.mp (by rw [k4]; rfl)
      refine x_topi (z := 3) k4 ?_
      refine lv_tableIn (off := 70) (tgt := 89) C.1 C.2.1 dX11_hearer_19 (by decide) (by decide) rfl (by decide) ?_
      have ha2_ := congrArg Int32.toInt k4
      have ha2_ : a2.toInt = 3 := ha2_
      refine lv_aload_n C.1 C.2.1 dX11_hearer_89 rfl (lv_at hl 0 rfl) ?_
      refine x_get C hw iwX11 10 rfl 0 rfl 14 (by decide) kw1207 rfl dX11_hearer_90 ?_
      refine lv_bipush (v := 48) C.1 C.2.1 dX11_hearer_93 (by decide) ?_
      refine lv_iload_n C.1 C.2.1 dX11_hearer_95 rfl (lv_at hl 1 rfl) ?_
      refine lv_iadd C.1 C.2.1 dX11_hearer_96 (x_genP (fun z : Int32 => z.toInt = 48 + a1.toInt) (i_add (X := 48) (Y := a1.toInt) rfl rfl (by omega) (by omega)) (fun v13 hv13 => ?_))
      refine x_iald (v := (qm_now_c v13.toNatClampNeg)) C hw 1 rfl (i_in (by omega) (by omega)) rfl dX11_hearer_97 (x_gen (fun v14 => ?_))
      refine x_calliS (As := [.int v14]) (rest := []) (wr := [(qm, .inr (10, [.int 0, .ref qm_tape, .int qm_taped, .int qm_size, .int qm_limit, .int qm_to, .int qm_from, .int qm_kind, .int qm_number, .int qm_sign, .int qm_fault, .int qm_place, .long qm_word, .int qm_told, .ref qm_now, .ref qm_read, .ref qm_kept, .ref qm_snaps, .ref qm_aside, .ref qm_name, .ref qm_readName, .ref qm_keptName, .ref qm_isKept, .ref qm_onces, .int qm_snapMany, .ref qm_order, .ref qm_ordered, .int qm_orderMany, .int qm_orderMost, .int qm_passing, .int qm_movedWho, .int qm_scratched, .ref qm_text, .int qm_texts, .int qm_seed, .ref qm_line, .ref qm_written, .int qm_lineMany, .int qm_hasWritten, .ref qm_node, .int qm_nodes, .int qm_onesMany, .int qm_within, .int qm_top])), (qm_now, eI G 339 qm_now_c)]) C hw (s_X11_bits v14) mwX11_bits kw1484 [] [0, 1] rfl rfl rfl rfl (by decide) rfl hl.1 rfl (Nat.le_of_ble_eq_true rfl) ⟨(Nat.le_of_ble_eq_true rfl), (Nat.le_of_ble_eq_true rfl)⟩ ⟨(Nat.le_of_ble_eq_true rfl), (Nat.le_of_ble_eq_true rfl)⟩ dX11_hearer_98 (fun r15 u9 H locs hp9 hw => ?_)
      obtain ⟨x16, rfl, rfl⟩ := hp9
      have hw : Wd G s A [(qm, .inr (10, [.int 0, .ref qm_tape, .int qm_taped, .int qm_size, .int qm_limit, .int qm_to, .int qm_from, .int qm_kind, .int qm_number, .int qm_sign, .int qm_fault, .int qm_place, .long qm_word, .int qm_told, .ref qm_now, .ref qm_read, .ref qm_kept, .ref qm_snaps, .ref qm_aside, .ref qm_name, .ref qm_readName, .ref qm_keptName, .ref qm_isKept, .ref qm_onces, .int qm_snapMany, .ref qm_order, .ref qm_ordered, .int qm_orderMany, .int qm_orderMost, .int qm_passing, .int qm_movedWho, .int qm_scratched, .ref qm_text, .int qm_texts, .int qm_seed, .ref qm_line, .ref qm_written, .int qm_lineMany, .int qm_hasWritten, .ref qm_node, .int qm_nodes, .int qm_onesMany, .int qm_within, .int qm_top])), (qm_now, eI G 339 qm_now_c)] H _ := hw
      exact x_retiQ hQ B hw ⟨0, r15, rfl, rfl, (by decide)⟩ (Nat.le_of_ble_eq_true rfl) (Nat.le_of_ble_eq_true rfl) dX11_hearer_101
    · skip
      have k4 : a2 = 4 := Int32.toInt_inj.mp (by rw [k4]; rfl)
      refine x_topi (z := 4) k4 ?_
      refine lv_tableIn (off := 83) (tgt := 102) C.1 C.2.1 dX11_hearer_19 (by decide) (by decide) rfl (by decide) ?_
      have ha2_ := congrArg Int32.toInt k4
      have ha2_ : a2.toInt = 4 := ha2_
      refine lv_aload_n C.1 C.2.1 dX11_hearer_102 rfl (lv_at hl 0 rfl) ?_
      refine x_get C hw iwX11 10 rfl 0 rfl 14 (by decide) kw1207 rfl dX11_hearer_103 ?_
      refine lv_bipush (v := 89) C.1 C.2.1 dX11_hearer_106 (by decide) ?_
      refine lv_iload_n C.1 C.2.1 dX11_hearer_108 rfl (lv_at hl 1 rfl) ?_
      refine lv_iadd C.1 C.2.1 dX11_hearer_109 (x_genP (fun z : Int32 => z.toInt = 89 + a1.toInt) (i_add (X := 89) (Y := a1.toInt) rfl rfl (by omega) (by omega)) (fun v17 hv17 => ?_))
      refine x_iald (v := (qm_now_c v17.toNatClampNeg)) C hw 1 rfl (i_in (by omega) (by omega)) rfl dX11_hearer_110 (x_gen (fun v18 => ?_))
      exact x_retiQ hQ B hw ⟨0, v18, rfl, rfl, (by decide)⟩ (Nat.le_of_ble_eq_true rfl) (Nat.le_of_ble_eq_true rfl) dX11_hearer_111
    · skip
      have k4 : a2 = 5 := Int32.toInt_inj.mp (by rw [k4]; rfl)
      refine x_topi (z := 5) k4 ?_
      refine lv_tableIn (off := 93) (tgt := 112) C.1 C.2.1 dX11_hearer_19 (by decide) (by decide) rfl (by decide) ?_
      have ha2_ := congrArg Int32.toInt k4
      have ha2_ : a2.toInt = 5 := ha2_
      refine lv_aload_n C.1 C.2.1 dX11_hearer_112 rfl (lv_at hl 0 rfl) ?_
      refine x_get C hw iwX11 10 rfl 0 rfl 14 (by decide) kw1207 rfl dX11_hearer_113 ?_
      refine lv_bipush (v := 56) C.1 C.2.1 dX11_hearer_116 (by decide) ?_
      refine lv_iload_n C.1 C.2.1 dX11_hearer_118 rfl (lv_at hl 1 rfl) ?_
      refine lv_iadd C.1 C.2.1 dX11_hearer_119 (x_genP (fun z : Int32 => z.toInt = 56 + a1.toInt) (i_add (X := 56) (Y := a1.toInt) rfl rfl (by omega) (by omega)) (fun v19 hv19 => ?_))
      refine x_iald (v := (qm_now_c v19.toNatClampNeg)) C hw 1 rfl (i_in (by omega) (by omega)) rfl dX11_hearer_120 (x_gen (fun v20 => ?_))
      exact x_retiQ hQ B hw ⟨0, v20, rfl, rfl, (by decide)⟩ (Nat.le_of_ble_eq_true rfl) (Nat.le_of_ble_eq_true rfl) dX11_hearer_121
    · skip
      refine lv_tableOut (tgt := 122) C.1 C.2.1 dX11_hearer_19 (by omega) (by decide) ?_
      refine lv_aload_n C.1 C.2.1 dX11_hearer_122 rfl (lv_at hl 0 rfl) ?_
      refine x_calliV (As := []) (rest := []) (wr := [(qm_now, eI G 339 qm_now_c)]) C hw (s_X11_refuse qm 0 qm_tape qm_taped qm_size qm_limit qm_to qm_from qm_kind qm_number qm_sign qm_fault qm_place qm_word qm_told qm_now qm_read qm_kept qm_snaps qm_aside qm_name qm_readName qm_keptName qm_isKept qm_onces qm_snapMany qm_order qm_ordered qm_orderMany qm_orderMost qm_passing qm_movedWho qm_scratched qm_text qm_texts qm_seed qm_line qm_written qm_lineMany qm_hasWritten qm_node qm_nodes qm_onesMany qm_within qm_top) mwX11_refuse kw1469 [0] [1] rfl rfl rfl rfl (by decide) 0 rfl rfl rfl rfl hl.1 rfl (Nat.le_of_ble_eq_true rfl) ⟨(Nat.le_of_ble_eq_true rfl), (Nat.le_of_ble_eq_true rfl)⟩ ⟨(Nat.le_of_ble_eq_true rfl), (Nat.le_of_ble_eq_true rfl)⟩ dX11_hearer_123 (fun r21 u9 H locs hp9 hw => ?_)
      obtain ⟨rfl, rfl⟩ := hp9
      have hw : Wd G s A [(qm_now, eI G 339 qm_now_c), (qm, .inr (10, [.int 1, .ref qm_tape, .int qm_taped, .int qm_size, .int qm_limit, .int qm_to, .int qm_from, .int qm_kind, .int qm_number, .int qm_sign, .int qm_fault, .int qm_place, .long qm_word, .int qm_told, .ref qm_now, .ref qm_read, .ref qm_kept, .ref qm_snaps, .ref qm_aside, .ref qm_name, .ref qm_readName, .ref qm_keptName, .ref qm_isKept, .ref qm_onces, .int qm_snapMany, .ref qm_order, .ref qm_ordered, .int qm_orderMany, .int qm_orderMost, .int qm_passing, .int qm_movedWho, .int qm_scratched, .ref qm_text, .int qm_texts, .int qm_seed, .ref qm_line, .ref qm_written, .int qm_lineMany, .int qm_hasWritten, .ref qm_node, .int qm_nodes, .int qm_onesMany, .int qm_within, .int qm_top]))] H _ := hw
      have hw := hw.sub (w' := [(qm, .inr (10, [.int 1, .ref qm_tape, .int qm_taped, .int qm_size, .int qm_limit, .int qm_to, .int qm_from, .int qm_kind, .int qm_number, .int qm_sign, .int qm_fault, .int qm_place, .long qm_word, .int qm_told, .ref qm_now, .ref qm_read, .ref qm_kept, .ref qm_snaps, .ref qm_aside, .ref qm_name, .ref qm_readName, .ref qm_keptName, .ref qm_isKept, .ref qm_onces, .int qm_snapMany, .ref qm_order, .ref qm_ordered, .int qm_orderMany, .int qm_orderMost, .int qm_passing, .int qm_movedWho, .int qm_scratched, .ref qm_text, .int qm_texts, .int qm_seed, .ref qm_line, .ref qm_written, .int qm_lineMany, .int qm_hasWritten, .ref qm_node, .int qm_nodes, .int qm_onesMany, .int qm_within, .int qm_top])), (qm_now, eI G 339 qm_now_c)]) [1, 0] rfl rfl
      exact x_retiQ hQ B hw ⟨1, 0, rfl, rfl, (by decide)⟩ (Nat.le_of_ble_eq_true rfl) (Nat.le_of_ble_eq_true rfl) dX11_hearer_126
theorem dX11_thinks_0 : decode cX11_thinks 0 = .ok (.aload_n 0, 1) := by decide +kernel
theorem dX11_thinks_1 : decode cX11_thinks 1 = .ok (.iconst 0, 1) := by decide +kernel
theorem dX11_thinks_2 : decode cX11_thinks 2 = .ok (.putfield 1, 3) := by decide +kernel
theorem dX11_thinks_5 : decode cX11_thinks 5 = .ok (.aload_n 0, 1) := by decide +kernel
theorem dX11_thinks_6 : decode cX11_thinks 6 = .ok (.iload_n 1, 1) := by decide +kernel
theorem dX11_thinks_7 : decode cX11_thinks 7 = .ok (.invokevirtual 258, 3) := by decide +kernel
theorem dX11_thinks_10 : decode cX11_thinks 10 = .ok (.ifCond .eq 21, 3) := by decide +kernel
theorem dX11_thinks_31 : decode cX11_thinks 31 = .ok (.iconst (-1), 1) := by decide +kernel
theorem dX11_thinks_32 : decode cX11_thinks 32 = .ok (.ireturn, 1) := by decide +kernel
theorem dX11_thinks_13 : decode cX11_thinks 13 = .ok (.iload_n 2, 1) := by decide +kernel
theorem dX11_thinks_14 : decode cX11_thinks 14 = .ok (.iconst 0, 1) := by decide +kernel
theorem dX11_thinks_15 : decode cX11_thinks 15 = .ok (.iconst 3, 1) := by decide +kernel
theorem dX11_thinks_16 : decode cX11_thinks 16 = .ok (.invokestatic 75, 3) := by decide +kernel
theorem dX11_thinks_19 : decode cX11_thinks 19 = .ok (.ifCond .eq 12, 3) := by decide +kernel
theorem dX11_thinks_22 : decode cX11_thinks 22 = .ok (.iload_n 3, 1) := by decide +kernel
theorem dX11_thinks_23 : decode cX11_thinks 23 = .ok (.iconst 0, 1) := by decide +kernel
theorem dX11_thinks_24 : decode cX11_thinks 24 = .ok (.iconst 3, 1) := by decide +kernel
theorem dX11_thinks_25 : decode cX11_thinks 25 = .ok (.invokestatic 75, 3) := by decide +kernel
theorem dX11_thinks_28 : decode cX11_thinks 28 = .ok (.ifCond .ne 5, 3) := by decide +kernel
theorem dX11_thinks_33 : decode cX11_thinks 33 = .ok (.iconst 4, 1) := by decide +kernel
theorem dX11_thinks_34 : decode cX11_thinks 34 = .ok (.iload_n 3, 1) := by decide +kernel
theorem dX11_thinks_35 : decode cX11_thinks 35 = .ok (.imul, 1) := by decide +kernel
theorem dX11_thinks_36 : decode cX11_thinks 36 = .ok (.iload_n 2, 1) := by decide +kernel
theorem dX11_thinks_37 : decode cX11_thinks 37 = .ok (.iadd, 1) := by decide +kernel
theorem dX11_thinks_38 : decode cX11_thinks 38 = .ok (.istore 4, 2) := by decide +kernel
theorem dX11_thinks_40 : decode cX11_thinks 40 = .ok (.aload_n 0, 1) := by decide +kernel
theorem dX11_thinks_41 : decode cX11_thinks 41 = .ok (.getfield 98, 3) := by decide +kernel
theorem dX11_thinks_44 : decode cX11_thinks 44 = .ok (.bipush 40, 2) := by decide +kernel
theorem dX11_thinks_46 : decode cX11_thinks 46 = .ok (.iload_n 1, 1) := by decide +kernel
theorem dX11_thinks_47 : decode cX11_thinks 47 = .ok (.iadd, 1) := by decide +kernel
theorem dX11_thinks_48 : decode cX11_thinks 48 = .ok (.iaload, 1) := by decide +kernel
theorem dX11_thinks_49 : decode cX11_thinks 49 = .ok (.iload 4, 2) := by decide +kernel
theorem dX11_thinks_51 : decode cX11_thinks 51 = .ok (.invokestatic 195, 3) := by decide +kernel
theorem dX11_thinks_54 : decode cX11_thinks 54 = .ok (.ifCond .eq 7, 3) := by decide +kernel
theorem dX11_thinks_61 : decode cX11_thinks 61 = .ok (.aload_n 0, 1) := by decide +kernel
theorem dX11_thinks_62 : decode cX11_thinks 62 = .ok (.getfield 98, 3) := by decide +kernel
theorem dX11_thinks_65 : decode cX11_thinks 65 = .ok (.bipush 48, 2) := by decide +kernel
theorem dX11_thinks_67 : decode cX11_thinks 67 = .ok (.iload_n 1, 1) := by decide +kernel
theorem dX11_thinks_68 : decode cX11_thinks 68 = .ok (.iadd, 1) := by decide +kernel
theorem dX11_thinks_69 : decode cX11_thinks 69 = .ok (.iaload, 1) := by decide +kernel
theorem dX11_thinks_70 : decode cX11_thinks 70 = .ok (.iload 4, 2) := by decide +kernel
theorem dX11_thinks_72 : decode cX11_thinks 72 = .ok (.invokestatic 195, 3) := by decide +kernel
theorem dX11_thinks_75 : decode cX11_thinks 75 = .ok (.ifCond .eq 7, 3) := by decide +kernel
theorem dX11_thinks_82 : decode cX11_thinks 82 = .ok (.iconst 0, 1) := by decide +kernel
theorem dX11_thinks_83 : decode cX11_thinks 83 = .ok (.ireturn, 1) := by decide +kernel
theorem dX11_thinks_78 : decode cX11_thinks 78 = .ok (.iconst 2, 1) := by decide +kernel
theorem dX11_thinks_79 : decode cX11_thinks 79 = .ok (.goto 4, 3) := by decide +kernel
theorem dX11_thinks_57 : decode cX11_thinks 57 = .ok (.iconst 1, 1) := by decide +kernel
theorem dX11_thinks_58 : decode cX11_thinks 58 = .ok (.goto 25, 3) := by decide +kernel
set_option maxHeartbeats 4000000 in
set_option maxRecDepth 100000 in
theorem s_X11_thinks {l : Launch} {G : Gc} (qm : Nat) (a1 : Int32) (a2 : Int32) (a3 : Int32) (qm_thrown : Int32) (qm_tape : Nat) (qm_taped : Int32) (qm_size : Int32) (qm_limit : Int32) (qm_to : Int32) (qm_from : Int32) (qm_kind : Int32) (qm_number : Int32) (qm_sign : Int32) (qm_fault : Int32) (qm_place : Int32) (qm_word : Int64) (qm_told : Int32) (qm_now : Nat) (qm_read : Nat) (qm_kept : Nat) (qm_snaps : Nat) (qm_aside : Nat) (qm_name : Nat) (qm_readName : Nat) (qm_keptName : Nat) (qm_isKept : Nat) (qm_onces : Nat) (qm_snapMany : Int32) (qm_order : Nat) (qm_ordered : Nat) (qm_orderMany : Int32) (qm_orderMost : Int32) (qm_passing : Int32) (qm_movedWho : Int32) (qm_scratched : Int32) (qm_text : Nat) (qm_texts : Int32) (qm_seed : Int32) (qm_line : Nat) (qm_written : Nat) (qm_lineMany : Int32) (qm_hasWritten : Int32) (qm_node : Nat) (qm_nodes : Int32) (qm_onesMany : Int32) (qm_within : Int32) (qm_top : Int32) (qm_now_c : Nat → Int32) (hf_qm_now_c : slI qm_now_c) (hf1_qm_now_c : trI qm_now_c) : Ci l yX11_thinks cX11_thinks 5 (some .int) 2 0 0 G [.ref qm, .int a1, .int a2, .int a3] [(qm, .inr (10, [.int qm_thrown, .ref qm_tape, .int qm_taped, .int qm_size, .int qm_limit, .int qm_to, .int qm_from, .int qm_kind, .int qm_number, .int qm_sign, .int qm_fault, .int qm_place, .long qm_word, .int qm_told, .ref qm_now, .ref qm_read, .ref qm_kept, .ref qm_snaps, .ref qm_aside, .ref qm_name, .ref qm_readName, .ref qm_keptName, .ref qm_isKept, .ref qm_onces, .int qm_snapMany, .ref qm_order, .ref qm_ordered, .int qm_orderMany, .int qm_orderMost, .int qm_passing, .int qm_movedWho, .int qm_scratched, .ref qm_text, .int qm_texts, .int qm_seed, .ref qm_line, .ref qm_written, .int qm_lineMany, .int qm_hasWritten, .ref qm_node, .int qm_nodes, .int qm_onesMany, .int qm_within, .int qm_top])), (qm_now, eI G 339 qm_now_c)] (fun (r9 : Int32) (u9 : va_W) => ∃ (r_x : Int32), r9 = r_x ∧ u9 = [(qm, .inr (10, [.int 0, .ref qm_tape, .int qm_taped, .int qm_size, .int qm_limit, .int qm_to, .int qm_from, .int qm_kind, .int qm_number, .int qm_sign, .int qm_fault, .int qm_place, .long qm_word, .int qm_told, .ref qm_now, .ref qm_read, .ref qm_kept, .ref qm_snaps, .ref qm_aside, .ref qm_name, .ref qm_readName, .ref qm_keptName, .ref qm_isKept, .ref qm_onces, .int qm_snapMany, .ref qm_order, .ref qm_ordered, .int qm_orderMany, .int qm_orderMost, .int qm_passing, .int qm_movedWho, .int qm_scratched, .ref qm_text, .int qm_texts, .int qm_seed, .ref qm_line, .ref qm_written, .int qm_lineMany, .int qm_hasWritten, .ref qm_node, .int qm_nodes, .int qm_onesMany, .int qm_within, .int qm_top])), (qm_now, eI G 339 qm_now_c)] ∧ ((-1) ≤ r_x.toInt ∧ r_x.toInt ≤ 2)) := by
  refine Ci.ofQ (by decide) (Nat.le_of_ble_eq_true rfl) ?_
  intro p e s m below meth c ls A args Q hQ B hw hl
  have C : CallFix p m c cX11_thinks 5 s args gw "LanternStateModel" := B.1
  have hl : lv_has ls 5 [(0, .ref qm), (1, .int a1), (2, .int a2), (3, .int a3)] := hl
  refine lv_aload_n C.1 C.2.1 dX11_thinks_0 rfl (lv_at hl 0 rfl) ?_
  refine lv_iconst (v := 0) C.1 C.2.1 dX11_thinks_1 (by decide) ?_
  refine x_put (w' := [(qm, .inr (10, [.int 0, .ref qm_tape, .int qm_taped, .int qm_size, .int qm_limit, .int qm_to, .int qm_from, .int qm_kind, .int qm_number, .int qm_sign, .int qm_fault, .int qm_place, .long qm_word, .int qm_told, .ref qm_now, .ref qm_read, .ref qm_kept, .ref qm_snaps, .ref qm_aside, .ref qm_name, .ref qm_readName, .ref qm_keptName, .ref qm_isKept, .ref qm_onces, .int qm_snapMany, .ref qm_order, .ref qm_ordered, .int qm_orderMany, .int qm_orderMost, .int qm_passing, .int qm_movedWho, .int qm_scratched, .ref qm_text, .int qm_texts, .int qm_seed, .ref qm_line, .ref qm_written, .int qm_lineMany, .int qm_hasWritten, .ref qm_node, .int qm_nodes, .int qm_onesMany, .int qm_within, .int qm_top])), (qm_now, eI G 339 qm_now_c)]) C hw iwX11 tyX11_ok nmX11 10 rfl 0 rfl 0 (by decide) kw1193 rfl rfl rfl (Nat.le_of_ble_eq_true rfl) rfl dX11_thinks_2 (fun H locs hw => ?_)
  refine lv_aload_n C.1 C.2.1 dX11_thinks_5 rfl (lv_at hl 0 rfl) ?_
  refine lv_iload_n C.1 C.2.1 dX11_thinks_6 rfl (lv_at hl 1 rfl) ?_
  refine x_calliV (As := [.int a1]) (rest := []) (wr := []) C hw (s_X11_isHearer qm a1 0 qm_tape qm_taped qm_size qm_limit qm_to qm_from qm_kind qm_number qm_sign qm_fault qm_place qm_word qm_told qm_now qm_read qm_kept qm_snaps qm_aside qm_name qm_readName qm_keptName qm_isKept qm_onces qm_snapMany qm_order qm_ordered qm_orderMany qm_orderMost qm_passing qm_movedWho qm_scratched qm_text qm_texts qm_seed qm_line qm_written qm_lineMany qm_hasWritten qm_node qm_nodes qm_onesMany qm_within qm_top qm_now_c hf_qm_now_c hf1_qm_now_c) mwX11_isHearer kw1501 [0, 1] [] rfl rfl rfl rfl (by decide) 0 rfl rfl rfl rfl hl.1 rfl (Nat.le_of_ble_eq_true rfl) ⟨(Nat.le_of_ble_eq_true rfl), (Nat.le_of_ble_eq_true rfl)⟩ ⟨(Nat.le_of_ble_eq_true rfl), (Nat.le_of_ble_eq_true rfl)⟩ dX11_thinks_7 (fun r1 u9 H locs hp9 hw => ?_)
  rcases hp9 with ⟨rfl, rfl⟩ | ⟨rfl, rfl, hf2⟩
  · skip
    have hw : Wd G s A [(qm, .inr (10, [.int 0, .ref qm_tape, .int qm_taped, .int qm_size, .int qm_limit, .int qm_to, .int qm_from, .int qm_kind, .int qm_number, .int qm_sign, .int qm_fault, .int qm_place, .long qm_word, .int qm_told, .ref qm_now, .ref qm_read, .ref qm_kept, .ref qm_snaps, .ref qm_aside, .ref qm_name, .ref qm_readName, .ref qm_keptName, .ref qm_isKept, .ref qm_onces, .int qm_snapMany, .ref qm_order, .ref qm_ordered, .int qm_orderMany, .int qm_orderMost, .int qm_passing, .int qm_movedWho, .int qm_scratched, .ref qm_text, .int qm_texts, .int qm_seed, .ref qm_line, .ref qm_written, .int qm_lineMany, .int qm_hasWritten, .ref qm_node, .int qm_nodes, .int qm_onesMany, .int qm_within, .int qm_top])), (qm_now, eI G 339 qm_now_c)] H _ := hw
    refine lv_if_eq (tgt := 31) C.1 C.2.1 dX11_thinks_10 (by decide) (fun _ => ?_) (fun h9 => absurd (by decide) h9)
    refine lv_iconst (v := (-1)) C.1 C.2.1 dX11_thinks_31 (by decide) ?_
    exact x_retiQ hQ B hw ⟨(-1), rfl, rfl, (by decide)⟩ (Nat.le_of_ble_eq_true rfl) (Nat.le_of_ble_eq_true rfl) dX11_thinks_32
  · skip
    have hw : Wd G s A [(qm, .inr (10, [.int 0, .ref qm_tape, .int qm_taped, .int qm_size, .int qm_limit, .int qm_to, .int qm_from, .int qm_kind, .int qm_number, .int qm_sign, .int qm_fault, .int qm_place, .long qm_word, .int qm_told, .ref qm_now, .ref qm_read, .ref qm_kept, .ref qm_snaps, .ref qm_aside, .ref qm_name, .ref qm_readName, .ref qm_keptName, .ref qm_isKept, .ref qm_onces, .int qm_snapMany, .ref qm_order, .ref qm_ordered, .int qm_orderMany, .int qm_orderMost, .int qm_passing, .int qm_movedWho, .int qm_scratched, .ref qm_text, .int qm_texts, .int qm_seed, .ref qm_line, .ref qm_written, .int qm_lineMany, .int qm_hasWritten, .ref qm_node, .int qm_nodes, .int qm_onesMany, .int qm_within, .int qm_top])), (qm_now, eI G 339 qm_now_c)] H _ := hw
    refine lv_if_eq (tgt := 31) C.1 C.2.1 dX11_thinks_10 (by decide) (fun h9 => absurd h9 (by decide)) (fun _ => ?_)
    refine lv_iload_n C.1 C.2.1 dX11_thinks_13 rfl (lv_at hl 2 rfl) ?_
    refine lv_iconst (v := 0) C.1 C.2.1 dX11_thinks_14 (by decide) ?_
    refine lv_iconst (v := 3) C.1 C.2.1 dX11_thinks_15 (by decide) ?_
    refine x_calliS (As := [.int a2, .int 0, .int 3]) (rest := []) (wr := [(qm, .inr (10, [.int 0, .ref qm_tape, .int qm_taped, .int qm_size, .int qm_limit, .int qm_to, .int qm_from, .int qm_kind, .int qm_number, .int qm_sign, .int qm_fault, .int qm_place, .long qm_word, .int qm_told, .ref qm_now, .ref qm_read, .ref qm_kept, .ref qm_snaps, .ref qm_aside, .ref qm_name, .ref qm_readName, .ref qm_keptName, .ref qm_isKept, .ref qm_onces, .int qm_snapMany, .ref qm_order, .ref qm_ordered, .int qm_orderMany, .int qm_orderMost, .int qm_passing, .int qm_movedWho, .int qm_scratched, .ref qm_text, .int qm_texts, .int qm_seed, .ref qm_line, .ref qm_written, .int qm_lineMany, .int qm_hasWritten, .ref qm_node, .int qm_nodes, .int qm_onesMany, .int qm_within, .int qm_top])), (qm_now, eI G 339 qm_now_c)]) C hw (s_X11_isIn a2 0 3) mwX11_isIn kw1396 [] [0, 1] rfl rfl rfl rfl (by decide) rfl hl.1 rfl (Nat.le_of_ble_eq_true rfl) ⟨(Nat.le_of_ble_eq_true rfl), (Nat.le_of_ble_eq_true rfl)⟩ ⟨(Nat.le_of_ble_eq_true rfl), (Nat.le_of_ble_eq_true rfl)⟩ dX11_thinks_16 (fun r3 u9 H locs hp9 hw => ?_)
    rcases hp9 with ⟨rfl, rfl, hf4⟩ | ⟨rfl, rfl, hf5, hf6⟩
    · skip
      have hw : Wd G s A [(qm, .inr (10, [.int 0, .ref qm_tape, .int qm_taped, .int qm_size, .int qm_limit, .int qm_to, .int qm_from, .int qm_kind, .int qm_number, .int qm_sign, .int qm_fault, .int qm_place, .long qm_word, .int qm_told, .ref qm_now, .ref qm_read, .ref qm_kept, .ref qm_snaps, .ref qm_aside, .ref qm_name, .ref qm_readName, .ref qm_keptName, .ref qm_isKept, .ref qm_onces, .int qm_snapMany, .ref qm_order, .ref qm_ordered, .int qm_orderMany, .int qm_orderMost, .int qm_passing, .int qm_movedWho, .int qm_scratched, .ref qm_text, .int qm_texts, .int qm_seed, .ref qm_line, .ref qm_written, .int qm_lineMany, .int qm_hasWritten, .ref qm_node, .int qm_nodes, .int qm_onesMany, .int qm_within, .int qm_top])), (qm_now, eI G 339 qm_now_c)] H _ := hw
      have hf4 : a2.toInt < 0 ∨ 3 < a2.toInt := by first | exact hf4 | (have e0 : (0 : Int32).toInt = 0 := rfl; have e1 : (3 : Int32).toInt = 3 := rfl; omega)
      refine lv_if_eq (tgt := 31) C.1 C.2.1 dX11_thinks_19 (by decide) (fun _ => ?_) (fun h9 => absurd (by decide) h9)
      refine lv_iconst (v := (-1)) C.1 C.2.1 dX11_thinks_31 (by decide) ?_
      exact x_retiQ hQ B hw ⟨(-1), rfl, rfl, (by decide)⟩ (Nat.le_of_ble_eq_true rfl) (Nat.le_of_ble_eq_true rfl) dX11_thinks_32
    · skip
      have hw : Wd G s A [(qm, .inr (10, [.int 0, .ref qm_tape, .int qm_taped, .int qm_size, .int qm_limit, .int qm_to, .int qm_from, .int qm_kind, .int qm_number, .int qm_sign, .int qm_fault, .int qm_place, .long qm_word, .int qm_told, .ref qm_now, .ref qm_read, .ref qm_kept, .ref qm_snaps, .ref qm_aside, .ref qm_name, .ref qm_readName, .ref qm_keptName, .ref qm_isKept, .ref qm_onces, .int qm_snapMany, .ref qm_order, .ref qm_ordered, .int qm_orderMany, .int qm_orderMost, .int qm_passing, .int qm_movedWho, .int qm_scratched, .ref qm_text, .int qm_texts, .int qm_seed, .ref qm_line, .ref qm_written, .int qm_lineMany, .int qm_hasWritten, .ref qm_node, .int qm_nodes, .int qm_onesMany, .int qm_within, .int qm_top])), (qm_now, eI G 339 qm_now_c)] H _ := hw
      have hf5 : 0 ≤ a2.toInt := by first | exact hf5 | (have e0 : (0 : Int32).toInt = 0 := rfl; omega)
      have hf6 : a2.toInt ≤ 3 := by first | exact hf6 | (have e0 : (3 : Int32).toInt = 3 := rfl; omega)
      refine lv_if_eq (tgt := 31) C.1 C.2.1 dX11_thinks_19 (by decide) (fun h9 => absurd h9 (by decide)) (fun _ => ?_)
      refine lv_iload_n C.1 C.2.1 dX11_thinks_22 rfl (lv_at hl 3 rfl) ?_
      refine lv_iconst (v := 0) C.1 C.2.1 dX11_thinks_23 (by decide) ?_
      refine lv_iconst (v := 3) C.1 C.2.1 dX11_thinks_24 (by decide) ?_
      refine x_calliS (As := [.int a3, .int 0, .int 3]) (rest := []) (wr := [(qm, .inr (10, [.int 0, .ref qm_tape, .int qm_taped, .int qm_size, .int qm_limit, .int qm_to, .int qm_from, .int qm_kind, .int qm_number, .int qm_sign, .int qm_fault, .int qm_place, .long qm_word, .int qm_told, .ref qm_now, .ref qm_read, .ref qm_kept, .ref qm_snaps, .ref qm_aside, .ref qm_name, .ref qm_readName, .ref qm_keptName, .ref qm_isKept, .ref qm_onces, .int qm_snapMany, .ref qm_order, .ref qm_ordered, .int qm_orderMany, .int qm_orderMost, .int qm_passing, .int qm_movedWho, .int qm_scratched, .ref qm_text, .int qm_texts, .int qm_seed, .ref qm_line, .ref qm_written, .int qm_lineMany, .int qm_hasWritten, .ref qm_node, .int qm_nodes, .int qm_onesMany, .int qm_within, .int qm_top])), (qm_now, eI G 339 qm_now_c)]) C hw (s_X11_isIn a3 0 3) mwX11_isIn kw1396 [] [0, 1] rfl rfl rfl rfl (by decide) rfl hl.1 rfl (Nat.le_of_ble_eq_true rfl) ⟨(Nat.le_of_ble_eq_true rfl), (Nat.le_of_ble_eq_true rfl)⟩ ⟨(Nat.le_of_ble_eq_true rfl), (Nat.le_of_ble_eq_true rfl)⟩ dX11_thinks_25 (fun r7 u9 H locs hp9 hw => ?_)
      rcases hp9 with ⟨rfl, rfl, hf8⟩ | ⟨rfl, rfl, hf9, hf10⟩
      · skip
        have hw : Wd G s A [(qm, .inr (10, [.int 0, .ref qm_tape, .int qm_taped, .int qm_size, .int qm_limit, .int qm_to, .int qm_from, .int qm_kind, .int qm_number, .int qm_sign, .int qm_fault, .int qm_place, .long qm_word, .int qm_told, .ref qm_now, .ref qm_read, .ref qm_kept, .ref qm_snaps, .ref qm_aside, .ref qm_name, .ref qm_readName, .ref qm_keptName, .ref qm_isKept, .ref qm_onces, .int qm_snapMany, .ref qm_order, .ref qm_ordered, .int qm_orderMany, .int qm_orderMost, .int qm_passing, .int qm_movedWho, .int qm_scratched, .ref qm_text, .int qm_texts, .int qm_seed, .ref qm_line, .ref qm_written, .int qm_lineMany, .int qm_hasWritten, .ref qm_node, .int qm_nodes, .int qm_onesMany, .int qm_within, .int qm_top])), (qm_now, eI G 339 qm_now_c)] H _ := hw
        have hf8 : a3.toInt < 0 ∨ 3 < a3.toInt := by first | exact hf8 | (have e0 : (0 : Int32).toInt = 0 := rfl; have e1 : (3 : Int32).toInt = 3 := rfl; omega)
        refine lv_if_ne (tgt := 33) C.1 C.2.1 dX11_thinks_28 (by decide) (fun h9 => absurd (by decide) h9) (fun _ => ?_)
        refine lv_iconst (v := (-1)) C.1 C.2.1 dX11_thinks_31 (by decide) ?_
        exact x_retiQ hQ B hw ⟨(-1), rfl, rfl, (by decide)⟩ (Nat.le_of_ble_eq_true rfl) (Nat.le_of_ble_eq_true rfl) dX11_thinks_32
      · skip
        have hw : Wd G s A [(qm, .inr (10, [.int 0, .ref qm_tape, .int qm_taped, .int qm_size, .int qm_limit, .int qm_to, .int qm_from, .int qm_kind, .int qm_number, .int qm_sign, .int qm_fault, .int qm_place, .long qm_word, .int qm_told, .ref qm_now, .ref qm_read, .ref qm_kept, .ref qm_snaps, .ref qm_aside, .ref qm_name, .ref qm_readName, .ref qm_keptName, .ref qm_isKept, .ref qm_onces, .int qm_snapMany, .ref qm_order, .ref qm_ordered, .int qm_orderMany, .int qm_orderMost, .int qm_passing, .int qm_movedWho, .int qm_scratched, .ref qm_text, .int qm_texts, .int qm_seed, .ref qm_line, .ref qm_written, .int qm_lineMany, .int qm_hasWritten, .ref qm_node, .int qm_nodes, .int qm_onesMany, .int qm_within, .int qm_top])), (qm_now, eI G 339 qm_now_c)] H _ := hw
        have hf9 : 0 ≤ a3.toInt := by first | exact hf9 | (have e0 : (0 : Int32).toInt = 0 := rfl; omega)
        have hf10 : a3.toInt ≤ 3 := by first | exact hf10 | (have e0 : (3 : Int32).toInt = 3 := rfl; omega)
        refine lv_if_ne (tgt := 33) C.1 C.2.1 dX11_thinks_28 (by decide) (fun _ => ?_) (fun h9 => absurd h9 (by decide))
        refine lv_iconst (v := 4) C.1 C.2.1 dX11_thinks_33 (by decide) ?_
        refine lv_iload_n C.1 C.2.1 dX11_thinks_34 rfl (lv_at hl 3 rfl) ?_
        refine lv_imul C.1 C.2.1 dX11_thinks_35 (x_genP (fun z : Int32 => z.toInt = 4 * a3.toInt) (i_mul (X := 4) (Y := a3.toInt) rfl rfl (by omega) (by omega)) (fun v11 hv11 => ?_))
        refine lv_iload_n C.1 C.2.1 dX11_thinks_36 rfl (lv_at hl 2 rfl) ?_
        refine lv_iadd C.1 C.2.1 dX11_thinks_37 (x_genP (fun z : Int32 => z.toInt = v11.toInt + a2.toInt) (i_add (X := v11.toInt) (Y := a2.toInt) rfl rfl (by omega) (by omega)) (fun v12 hv12 => ?_))
        refine lv_istore (lv' := [(4, .int v12), (0, .ref qm), (1, .int a1), (2, .int a2), (3, .int a3)]) C.1 C.2.1 dX11_thinks_38 hl (by decide) rfl (fun ls hl => ?_)
        refine lv_aload_n C.1 C.2.1 dX11_thinks_40 rfl (lv_at hl 1 rfl) ?_
        refine x_get C hw iwX11 10 rfl 0 rfl 14 (by decide) kw1207 rfl dX11_thinks_41 ?_
        refine lv_bipush (v := 40) C.1 C.2.1 dX11_thinks_44 (by decide) ?_
        refine lv_iload_n C.1 C.2.1 dX11_thinks_46 rfl (lv_at hl 2 rfl) ?_
        refine lv_iadd C.1 C.2.1 dX11_thinks_47 (x_genP (fun z : Int32 => z.toInt = 40 + a1.toInt) (i_add (X := 40) (Y := a1.toInt) rfl rfl (by omega) (by omega)) (fun v13 hv13 => ?_))
        refine x_iald (v := (qm_now_c v13.toNatClampNeg)) C hw 1 rfl (i_in (by omega) (by omega)) rfl dX11_thinks_48 (x_gen (fun v14 => ?_))
        refine lv_iload C.1 C.2.1 dX11_thinks_49 (lv_at hl 0 rfl) ?_
        refine x_calliS (As := [.int v14, .int v12]) (rest := []) (wr := [(qm, .inr (10, [.int 0, .ref qm_tape, .int qm_taped, .int qm_size, .int qm_limit, .int qm_to, .int qm_from, .int qm_kind, .int qm_number, .int qm_sign, .int qm_fault, .int qm_place, .long qm_word, .int qm_told, .ref qm_now, .ref qm_read, .ref qm_kept, .ref qm_snaps, .ref qm_aside, .ref qm_name, .ref qm_readName, .ref qm_keptName, .ref qm_isKept, .ref qm_onces, .int qm_snapMany, .ref qm_order, .ref qm_ordered, .int qm_orderMany, .int qm_orderMost, .int qm_passing, .int qm_movedWho, .int qm_scratched, .ref qm_text, .int qm_texts, .int qm_seed, .ref qm_line, .ref qm_written, .int qm_lineMany, .int qm_hasWritten, .ref qm_node, .int qm_nodes, .int qm_onesMany, .int qm_within, .int qm_top])), (qm_now, eI G 339 qm_now_c)]) C hw (s_X11_has v14 v12) mwX11_has kw1426 [] [0, 1] rfl rfl rfl rfl (by decide) rfl hl.1 rfl (Nat.le_of_ble_eq_true rfl) ⟨(Nat.le_of_ble_eq_true rfl), (Nat.le_of_ble_eq_true rfl)⟩ ⟨(Nat.le_of_ble_eq_true rfl), (Nat.le_of_ble_eq_true rfl)⟩ dX11_thinks_51 (fun r15 u9 H locs hp9 hw => ?_)
        rcases hp9 with ⟨rfl, rfl⟩ | ⟨rfl, rfl, hf16⟩
        · skip
          have hw : Wd G s A [(qm, .inr (10, [.int 0, .ref qm_tape, .int qm_taped, .int qm_size, .int qm_limit, .int qm_to, .int qm_from, .int qm_kind, .int qm_number, .int qm_sign, .int qm_fault, .int qm_place, .long qm_word, .int qm_told, .ref qm_now, .ref qm_read, .ref qm_kept, .ref qm_snaps, .ref qm_aside, .ref qm_name, .ref qm_readName, .ref qm_keptName, .ref qm_isKept, .ref qm_onces, .int qm_snapMany, .ref qm_order, .ref qm_ordered, .int qm_orderMany, .int qm_orderMost, .int qm_passing, .int qm_movedWho, .int qm_scratched, .ref qm_text, .int qm_texts, .int qm_seed, .ref qm_line, .ref qm_written, .int qm_lineMany, .int qm_hasWritten, .ref qm_node, .int qm_nodes, .int qm_onesMany, .int qm_within, .int qm_top])), (qm_now, eI G 339 qm_now_c)] H _ := hw
          refine lv_if_eq (tgt := 61) C.1 C.2.1 dX11_thinks_54 (by decide) (fun _ => ?_) (fun h9 => absurd (by decide) h9)
          refine lv_aload_n C.1 C.2.1 dX11_thinks_61 rfl (lv_at hl 1 rfl) ?_
          refine x_get C hw iwX11 10 rfl 0 rfl 14 (by decide) kw1207 rfl dX11_thinks_62 ?_
          refine lv_bipush (v := 48) C.1 C.2.1 dX11_thinks_65 (by decide) ?_
          refine lv_iload_n C.1 C.2.1 dX11_thinks_67 rfl (lv_at hl 2 rfl) ?_
          refine lv_iadd C.1 C.2.1 dX11_thinks_68 (x_genP (fun z : Int32 => z.toInt = 48 + a1.toInt) (i_add (X := 48) (Y := a1.toInt) rfl rfl (by omega) (by omega)) (fun v17 hv17 => ?_))
          refine x_iald (v := (qm_now_c v17.toNatClampNeg)) C hw 1 rfl (i_in (by omega) (by omega)) rfl dX11_thinks_69 (x_gen (fun v18 => ?_))
          refine lv_iload C.1 C.2.1 dX11_thinks_70 (lv_at hl 0 rfl) ?_
          refine x_calliS (As := [.int v18, .int v12]) (rest := []) (wr := [(qm, .inr (10, [.int 0, .ref qm_tape, .int qm_taped, .int qm_size, .int qm_limit, .int qm_to, .int qm_from, .int qm_kind, .int qm_number, .int qm_sign, .int qm_fault, .int qm_place, .long qm_word, .int qm_told, .ref qm_now, .ref qm_read, .ref qm_kept, .ref qm_snaps, .ref qm_aside, .ref qm_name, .ref qm_readName, .ref qm_keptName, .ref qm_isKept, .ref qm_onces, .int qm_snapMany, .ref qm_order, .ref qm_ordered, .int qm_orderMany, .int qm_orderMost, .int qm_passing, .int qm_movedWho, .int qm_scratched, .ref qm_text, .int qm_texts, .int qm_seed, .ref qm_line, .ref qm_written, .int qm_lineMany, .int qm_hasWritten, .ref qm_node, .int qm_nodes, .int qm_onesMany, .int qm_within, .int qm_top])), (qm_now, eI G 339 qm_now_c)]) C hw (s_X11_has v18 v12) mwX11_has kw1426 [] [0, 1] rfl rfl rfl rfl (by decide) rfl hl.1 rfl (Nat.le_of_ble_eq_true rfl) ⟨(Nat.le_of_ble_eq_true rfl), (Nat.le_of_ble_eq_true rfl)⟩ ⟨(Nat.le_of_ble_eq_true rfl), (Nat.le_of_ble_eq_true rfl)⟩ dX11_thinks_72 (fun r19 u9 H locs hp9 hw => ?_)
          rcases hp9 with ⟨rfl, rfl⟩ | ⟨rfl, rfl, hf20⟩
          · skip
            have hw : Wd G s A [(qm, .inr (10, [.int 0, .ref qm_tape, .int qm_taped, .int qm_size, .int qm_limit, .int qm_to, .int qm_from, .int qm_kind, .int qm_number, .int qm_sign, .int qm_fault, .int qm_place, .long qm_word, .int qm_told, .ref qm_now, .ref qm_read, .ref qm_kept, .ref qm_snaps, .ref qm_aside, .ref qm_name, .ref qm_readName, .ref qm_keptName, .ref qm_isKept, .ref qm_onces, .int qm_snapMany, .ref qm_order, .ref qm_ordered, .int qm_orderMany, .int qm_orderMost, .int qm_passing, .int qm_movedWho, .int qm_scratched, .ref qm_text, .int qm_texts, .int qm_seed, .ref qm_line, .ref qm_written, .int qm_lineMany, .int qm_hasWritten, .ref qm_node, .int qm_nodes, .int qm_onesMany, .int qm_within, .int qm_top])), (qm_now, eI G 339 qm_now_c)] H _ := hw
            refine lv_if_eq (tgt := 82) C.1 C.2.1 dX11_thinks_75 (by decide) (fun _ => ?_) (fun h9 => absurd (by decide) h9)
            refine lv_iconst (v := 0) C.1 C.2.1 dX11_thinks_82 (by decide) ?_
            exact x_retiQ hQ B hw ⟨0, rfl, rfl, (by decide)⟩ (Nat.le_of_ble_eq_true rfl) (Nat.le_of_ble_eq_true rfl) dX11_thinks_83
          · skip
            have hw : Wd G s A [(qm, .inr (10, [.int 0, .ref qm_tape, .int qm_taped, .int qm_size, .int qm_limit, .int qm_to, .int qm_from, .int qm_kind, .int qm_number, .int qm_sign, .int qm_fault, .int qm_place, .long qm_word, .int qm_told, .ref qm_now, .ref qm_read, .ref qm_kept, .ref qm_snaps, .ref qm_aside, .ref qm_name, .ref qm_readName, .ref qm_keptName, .ref qm_isKept, .ref qm_onces, .int qm_snapMany, .ref qm_order, .ref qm_ordered, .int qm_orderMany, .int qm_orderMost, .int qm_passing, .int qm_movedWho, .int qm_scratched, .ref qm_text, .int qm_texts, .int qm_seed, .ref qm_line, .ref qm_written, .int qm_lineMany, .int qm_hasWritten, .ref qm_node, .int qm_nodes, .int qm_onesMany, .int qm_within, .int qm_top])), (qm_now, eI G 339 qm_now_c)] H _ := hw
            refine lv_if_eq (tgt := 82) C.1 C.2.1 dX11_thinks_75 (by decide) (fun h9 => absurd h9 (by decide)) (fun _ => ?_)
            refine lv_iconst (v := 2) C.1 C.2.1 dX11_thinks_78 (by decide) ?_
            refine lv_goto (tgt := 83) C.1 C.2.1 dX11_thinks_79 (by decide) ?_
            exact x_retiQ hQ B hw ⟨2, rfl, rfl, (by decide)⟩ (Nat.le_of_ble_eq_true rfl) (Nat.le_of_ble_eq_true rfl) dX11_thinks_83
        · skip
          have hw : Wd G s A [(qm, .inr (10, [.int 0, .ref qm_tape, .int qm_taped, .int qm_size, .int qm_limit, .int qm_to, .int qm_from, .int qm_kind, .int qm_number, .int qm_sign, .int qm_fault, .int qm_place, .long qm_word, .int qm_told, .ref qm_now, .ref qm_read, .ref qm_kept, .ref qm_snaps, .ref qm_aside, .ref qm_name, .ref qm_readName, .ref qm_keptName, .ref qm_isKept, .ref qm_onces, .int qm_snapMany, .ref qm_order, .ref qm_ordered, .int qm_orderMany, .int qm_orderMost, .int qm_passing, .int qm_movedWho, .int qm_scratched, .ref qm_text, .int qm_texts, .int qm_seed, .ref qm_line, .ref qm_written, .int qm_lineMany, .int qm_hasWritten, .ref qm_node, .int qm_nodes, .int qm_onesMany, .int qm_within, .int qm_top])), (qm_now, eI G 339 qm_now_c)] H _ := hw
          refine lv_if_eq (tgt := 61) C.1 C.2.1 dX11_thinks_54 (by decide) (fun h9 => absurd h9 (by decide)) (fun _ => ?_)
          refine lv_iconst (v := 1) C.1 C.2.1 dX11_thinks_57 (by decide) ?_
          refine lv_goto (tgt := 83) C.1 C.2.1 dX11_thinks_58 (by decide) ?_
          exact x_retiQ hQ B hw ⟨1, rfl, rfl, (by decide)⟩ (Nat.le_of_ble_eq_true rfl) (Nat.le_of_ble_eq_true rfl) dX11_thinks_83
theorem dX11_allSighs_0 : decode cX11_allSighs 0 = .ok (.iconst 0, 1) := by decide +kernel
theorem dX11_allSighs_1 : decode cX11_allSighs 1 = .ok (.istore_n 1, 1) := by decide +kernel
theorem dX11_allSighs_2 : decode cX11_allSighs 2 = .ok (.iconst 0, 1) := by decide +kernel
theorem dX11_allSighs_3 : decode cX11_allSighs 3 = .ok (.istore_n 2, 1) := by decide +kernel
theorem dX11_allSighs_4 : decode cX11_allSighs 4 = .ok (.iload_n 2, 1) := by decide +kernel
theorem dX11_allSighs_5 : decode cX11_allSighs 5 = .ok (.bipush 8, 2) := by decide +kernel
theorem dX11_allSighs_7 : decode cX11_allSighs 7 = .ok (.if_icmp .ge 21, 3) := by decide +kernel
theorem dX11_allSighs_10 : decode cX11_allSighs 10 = .ok (.iload_n 1, 1) := by decide +kernel
theorem dX11_allSighs_11 : decode cX11_allSighs 11 = .ok (.aload_n 0, 1) := by decide +kernel
theorem dX11_allSighs_12 : decode cX11_allSighs 12 = .ok (.getfield 98, 3) := by decide +kernel
theorem dX11_allSighs_15 : decode cX11_allSighs 15 = .ok (.bipush 89, 2) := by decide +kernel
theorem dX11_allSighs_17 : decode cX11_allSighs 17 = .ok (.iload_n 2, 1) := by decide +kernel
theorem dX11_allSighs_18 : decode cX11_allSighs 18 = .ok (.iadd, 1) := by decide +kernel
theorem dX11_allSighs_19 : decode cX11_allSighs 19 = .ok (.iaload, 1) := by decide +kernel
theorem dX11_allSighs_20 : decode cX11_allSighs 20 = .ok (.iadd, 1) := by decide +kernel
theorem dX11_allSighs_21 : decode cX11_allSighs 21 = .ok (.istore_n 1, 1) := by decide +kernel
theorem dX11_allSighs_22 : decode cX11_allSighs 22 = .ok (.iinc 2 1, 3) := by decide +kernel
theorem dX11_allSighs_25 : decode cX11_allSighs 25 = .ok (.goto (-21), 3) := by decide +kernel
theorem dX11_allSighs_28 : decode cX11_allSighs 28 = .ok (.iload_n 1, 1) := by decide +kernel
theorem dX11_allSighs_29 : decode cX11_allSighs 29 = .ok (.ireturn, 1) := by decide +kernel
set_option maxHeartbeats 4000000 in
set_option maxRecDepth 100000 in
theorem s_X11_allSighs {l : Launch} {G : Gc} (qm : Nat) (qm_thrown : Int32) (qm_tape : Nat) (qm_taped : Int32) (qm_size : Int32) (qm_limit : Int32) (qm_to : Int32) (qm_from : Int32) (qm_kind : Int32) (qm_number : Int32) (qm_sign : Int32) (qm_fault : Int32) (qm_place : Int32) (qm_word : Int64) (qm_told : Int32) (qm_now : Nat) (qm_read : Nat) (qm_kept : Nat) (qm_snaps : Nat) (qm_aside : Nat) (qm_name : Nat) (qm_readName : Nat) (qm_keptName : Nat) (qm_isKept : Nat) (qm_onces : Nat) (qm_snapMany : Int32) (qm_order : Nat) (qm_ordered : Nat) (qm_orderMany : Int32) (qm_orderMost : Int32) (qm_passing : Int32) (qm_movedWho : Int32) (qm_scratched : Int32) (qm_text : Nat) (qm_texts : Int32) (qm_seed : Int32) (qm_line : Nat) (qm_written : Nat) (qm_lineMany : Int32) (qm_hasWritten : Int32) (qm_node : Nat) (qm_nodes : Int32) (qm_onesMany : Int32) (qm_within : Int32) (qm_top : Int32) (qm_now_c : Nat → Int32) (hf_qm_now_c : slI qm_now_c) (hf1_qm_now_c : trI qm_now_c) : Ci l yX11_allSighs cX11_allSighs 3 (some .int) 0 0 0 G [.ref qm] [(qm, .inr (10, [.int qm_thrown, .ref qm_tape, .int qm_taped, .int qm_size, .int qm_limit, .int qm_to, .int qm_from, .int qm_kind, .int qm_number, .int qm_sign, .int qm_fault, .int qm_place, .long qm_word, .int qm_told, .ref qm_now, .ref qm_read, .ref qm_kept, .ref qm_snaps, .ref qm_aside, .ref qm_name, .ref qm_readName, .ref qm_keptName, .ref qm_isKept, .ref qm_onces, .int qm_snapMany, .ref qm_order, .ref qm_ordered, .int qm_orderMany, .int qm_orderMost, .int qm_passing, .int qm_movedWho, .int qm_scratched, .ref qm_text, .int qm_texts, .int qm_seed, .ref qm_line, .ref qm_written, .int qm_lineMany, .int qm_hasWritten, .ref qm_node, .int qm_nodes, .int qm_onesMany, .int qm_within, .int qm_top])), (qm_now, eI G 339 qm_now_c)] (fun (r9 : Int32) (u9 : va_W) => ∃ (r_x : Int32), r9 = r_x ∧ u9 = [(qm, .inr (10, [.int qm_thrown, .ref qm_tape, .int qm_taped, .int qm_size, .int qm_limit, .int qm_to, .int qm_from, .int qm_kind, .int qm_number, .int qm_sign, .int qm_fault, .int qm_place, .long qm_word, .int qm_told, .ref qm_now, .ref qm_read, .ref qm_kept, .ref qm_snaps, .ref qm_aside, .ref qm_name, .ref qm_readName, .ref qm_keptName, .ref qm_isKept, .ref qm_onces, .int qm_snapMany, .ref qm_order, .ref qm_ordered, .int qm_orderMany, .int qm_orderMost, .int qm_passing, .int qm_movedWho, .int qm_scratched, .ref qm_text, .int qm_texts, .int qm_seed, .ref qm_line, .ref qm_written, .int qm_lineMany, .int qm_hasWritten, .ref qm_node, .int qm_nodes, .int qm_onesMany, .int qm_within, .int qm_top])), (qm_now, eI G 339 qm_now_c)]) := by
  refine Ci.ofQ (by decide) (Nat.le_of_ble_eq_true rfl) ?_
  intro p e s m below meth c ls A args Q hQ B hw hl
  have C : CallFix p m c cX11_allSighs 3 s args gw "LanternStateModel" := B.1
  have hl : lv_has ls 3 [(0, .ref qm)] := hl
  refine lv_iconst (v := 0) C.1 C.2.1 dX11_allSighs_0 (by decide) ?_
  refine lv_istore_n (lv' := [(1, .int 0), (0, .ref qm)]) C.1 C.2.1 dX11_allSighs_1 rfl hl (by decide) rfl (fun ls hl => ?_)
  refine lv_iconst (v := 0) C.1 C.2.1 dX11_allSighs_2 (by decide) ?_
  refine lv_istore_n (lv' := [(2, .int 0), (1, .int 0), (0, .ref qm)]) C.1 C.2.1 dX11_allSighs_3 rfl hl (by decide) rfl (fun ls hl => ?_)
  have loopJ62 : ∀ (n9 : Nat) (j60 : Int32) (j61 : Int32), (2147483647 - j60.toInt).toNat < n9 → (0 ≤ j60.toInt ∧ j60.toInt ≤ 8) → ∀ (H : Heap) (locs : List Loc) (ls : Array Slot), Wd G s A [(qm, .inr (10, [.int qm_thrown, .ref qm_tape, .int qm_taped, .int qm_size, .int qm_limit, .int qm_to, .int qm_from, .int qm_kind, .int qm_number, .int qm_sign, .int qm_fault, .int qm_place, .long qm_word, .int qm_told, .ref qm_now, .ref qm_read, .ref qm_kept, .ref qm_snaps, .ref qm_aside, .ref qm_name, .ref qm_readName, .ref qm_keptName, .ref qm_isKept, .ref qm_onces, .int qm_snapMany, .ref qm_order, .ref qm_ordered, .int qm_orderMany, .int qm_orderMost, .int qm_passing, .int qm_movedWho, .int qm_scratched, .ref qm_text, .int qm_texts, .int qm_seed, .ref qm_line, .ref qm_written, .int qm_lineMany, .int qm_hasWritten, .ref qm_node, .int qm_nodes, .int qm_onesMany, .int qm_within, .int qm_top])), (qm_now, eI G 339 qm_now_c)] H locs → lv_has ls 3 [(2, .int j60), (1, .int j61), (0, .ref qm)] → W p l e (rmD 0 0 0) s m args below meth c H locs 0 0 Q (F0 m 4 ls []) := by
    intro n9
    induction n9 with
    | zero => intro j60 j61 h9; exact absurd h9 (Nat.not_lt_zero _)
    | succ n9 ihJ62 =>
      intro j60 j61 h9J62 hJ62_0 H locs ls hw hl
      have hbj60 := i_bd j60
      refine lv_iload_n C.1 C.2.1 dX11_allSighs_4 rfl (lv_at hl 0 rfl) ?_
      refine lv_bipush (v := 8) C.1 C.2.1 dX11_allSighs_5 (by decide) ?_
      refine lv_icmp_ge (tgt := 28) C.1 C.2.1 dX11_allSighs_7 (by decide) (fun c71 => ?_) (fun c71 => ?_)
      · skip
        have c71 : 8 ≤ j60.toInt := i_leT (X := 8) (Y := j60.toInt) rfl rfl c71
        refine lv_iload_n C.1 C.2.1 dX11_allSighs_28 rfl (lv_at hl 1 rfl) ?_
        exact x_retiQ hQ B hw ⟨j61, rfl, rfl⟩ (Nat.le_of_ble_eq_true rfl) (Nat.le_of_ble_eq_true rfl) dX11_allSighs_29
      · skip
        have c71 : j60.toInt < 8 := i_leF (X := 8) (Y := j60.toInt) rfl rfl c71
        refine lv_iload_n C.1 C.2.1 dX11_allSighs_10 rfl (lv_at hl 1 rfl) ?_
        refine lv_aload_n C.1 C.2.1 dX11_allSighs_11 rfl (lv_at hl 2 rfl) ?_
        refine x_get C hw iwX11 10 rfl 0 rfl 14 (by decide) kw1207 rfl dX11_allSighs_12 ?_
        refine lv_bipush (v := 89) C.1 C.2.1 dX11_allSighs_15 (by decide) ?_
        refine lv_iload_n C.1 C.2.1 dX11_allSighs_17 rfl (lv_at hl 0 rfl) ?_
        refine lv_iadd C.1 C.2.1 dX11_allSighs_18 (x_genP (fun z : Int32 => z.toInt = 89 + j60.toInt) (i_add (X := 89) (Y := j60.toInt) rfl rfl (by omega) (by omega)) (fun v72 hv72 => ?_))
        refine x_iald (v := (qm_now_c v72.toNatClampNeg)) C hw 1 rfl (i_in (by omega) (by omega)) rfl dX11_allSighs_19 (x_gen (fun v73 => ?_))
        refine lv_iadd C.1 C.2.1 dX11_allSighs_20 (x_gen (fun v74 => ?_))
        refine lv_istore_n (lv' := [(1, .int v74), (2, .int j60), (0, .ref qm)]) C.1 C.2.1 dX11_allSighs_21 rfl hl (by decide) rfl (fun ls hl => ?_)
        obtain ⟨v75, ev75⟩ : ∃ z : Int32, j60 + 1 = z := ⟨_, rfl⟩
        have hv75 : v75.toInt = j60.toInt + 1 := by rw [← ev75]; exact i_add rfl rfl (by omega) (by omega)
        refine lv_iinc (v := v75) (lv' := [(2, .int v75), (1, .int v74), (0, .ref qm)]) C.1 C.2.1 dX11_allSighs_22 hl (k := 1) rfl ev75 (by decide) rfl (fun ls hl => ?_)
        refine lv_goto (tgt := 4) C.1 C.2.1 dX11_allSighs_25 (by decide) ?_
        exact ihJ62 v75 v74 (by omega) (by omega) _ _ _ hw (lv_sub hl [0, 1, 2] rfl)
  exact loopJ62 _ 0 0 (Nat.lt_succ_self _) (by decide) _ _ _ hw (lv_sub hl [0, 1, 2] rfl)
theorem dX11_now_0 : decode cX11_now 0 = .ok (.aload_n 0, 1) := by decide +kernel
theorem dX11_now_1 : decode cX11_now 1 = .ok (.iconst 0, 1) := by decide +kernel
theorem dX11_now_2 : decode cX11_now 2 = .ok (.putfield 1, 3) := by decide +kernel
theorem dX11_now_5 : decode cX11_now 5 = .ok (.iload_n 1, 1) := by decide +kernel
theorem dX11_now_6 : decode cX11_now 6 = .ok (.tableswitch 92 0 6 #[42, 50, 58, 66, 74, 82, 87], 42) := by decide +kernel
theorem dX11_now_48 : decode cX11_now 48 = .ok (.aload_n 0, 1) := by decide +kernel
theorem dX11_now_49 : decode cX11_now 49 = .ok (.getfield 98, 3) := by decide +kernel
theorem dX11_now_52 : decode cX11_now 52 = .ok (.bipush 64, 2) := by decide +kernel
theorem dX11_now_54 : decode cX11_now 54 = .ok (.iaload, 1) := by decide +kernel
theorem dX11_now_55 : decode cX11_now 55 = .ok (.ireturn, 1) := by decide +kernel
theorem dX11_now_56 : decode cX11_now 56 = .ok (.aload_n 0, 1) := by decide +kernel
theorem dX11_now_57 : decode cX11_now 57 = .ok (.getfield 98, 3) := by decide +kernel
theorem dX11_now_60 : decode cX11_now 60 = .ok (.bipush 65, 2) := by decide +kernel
theorem dX11_now_62 : decode cX11_now 62 = .ok (.iaload, 1) := by decide +kernel
theorem dX11_now_63 : decode cX11_now 63 = .ok (.ireturn, 1) := by decide +kernel
theorem dX11_now_64 : decode cX11_now 64 = .ok (.aload_n 0, 1) := by decide +kernel
theorem dX11_now_65 : decode cX11_now 65 = .ok (.getfield 98, 3) := by decide +kernel
theorem dX11_now_68 : decode cX11_now 68 = .ok (.bipush 66, 2) := by decide +kernel
theorem dX11_now_70 : decode cX11_now 70 = .ok (.iaload, 1) := by decide +kernel
theorem dX11_now_71 : decode cX11_now 71 = .ok (.ireturn, 1) := by decide +kernel
theorem dX11_now_72 : decode cX11_now 72 = .ok (.aload_n 0, 1) := by decide +kernel
theorem dX11_now_73 : decode cX11_now 73 = .ok (.getfield 98, 3) := by decide +kernel
theorem dX11_now_76 : decode cX11_now 76 = .ok (.bipush 67, 2) := by decide +kernel
theorem dX11_now_78 : decode cX11_now 78 = .ok (.iaload, 1) := by decide +kernel
theorem dX11_now_79 : decode cX11_now 79 = .ok (.ireturn, 1) := by decide +kernel
theorem dX11_now_80 : decode cX11_now 80 = .ok (.aload_n 0, 1) := by decide +kernel
theorem dX11_now_81 : decode cX11_now 81 = .ok (.getfield 98, 3) := by decide +kernel
theorem dX11_now_84 : decode cX11_now 84 = .ok (.bipush 68, 2) := by decide +kernel
theorem dX11_now_86 : decode cX11_now 86 = .ok (.iaload, 1) := by decide +kernel
theorem dX11_now_87 : decode cX11_now 87 = .ok (.ireturn, 1) := by decide +kernel
theorem dX11_now_88 : decode cX11_now 88 = .ok (.aload_n 0, 1) := by decide +kernel
theorem dX11_now_89 : decode cX11_now 89 = .ok (.invokevirtual 261, 3) := by decide +kernel
theorem dX11_now_92 : decode cX11_now 92 = .ok (.ireturn, 1) := by decide +kernel
theorem dX11_now_93 : decode cX11_now 93 = .ok (.aload_n 0, 1) := by decide +kernel
theorem dX11_now_94 : decode cX11_now 94 = .ok (.invokevirtual 264, 3) := by decide +kernel
theorem mwX11_allSighs : MwV yX11_allSighs cX11_allSighs 3 (some .int) 0 := ⟨⟨kw1520, kw15, by decide +kernel⟩, kw1519, kS76⟩
theorem dX11_now_97 : decode cX11_now 97 = .ok (.ireturn, 1) := by decide +kernel
theorem dX11_now_98 : decode cX11_now 98 = .ok (.iconst (-1), 1) := by decide +kernel
theorem dX11_now_99 : decode cX11_now 99 = .ok (.ireturn, 1) := by decide +kernel
set_option maxHeartbeats 4000000 in
set_option maxRecDepth 100000 in
theorem s_X11_now {l : Launch} {G : Gc} (qm : Nat) (a1 : Int32) (qm_thrown : Int32) (qm_tape : Nat) (qm_taped : Int32) (qm_size : Int32) (qm_limit : Int32) (qm_to : Int32) (qm_from : Int32) (qm_kind : Int32) (qm_number : Int32) (qm_sign : Int32) (qm_fault : Int32) (qm_place : Int32) (qm_word : Int64) (qm_told : Int32) (qm_now : Nat) (qm_read : Nat) (qm_kept : Nat) (qm_snaps : Nat) (qm_aside : Nat) (qm_name : Nat) (qm_readName : Nat) (qm_keptName : Nat) (qm_isKept : Nat) (qm_onces : Nat) (qm_snapMany : Int32) (qm_order : Nat) (qm_ordered : Nat) (qm_orderMany : Int32) (qm_orderMost : Int32) (qm_passing : Int32) (qm_movedWho : Int32) (qm_scratched : Int32) (qm_text : Nat) (qm_texts : Int32) (qm_seed : Int32) (qm_line : Nat) (qm_written : Nat) (qm_lineMany : Int32) (qm_hasWritten : Int32) (qm_node : Nat) (qm_nodes : Int32) (qm_onesMany : Int32) (qm_within : Int32) (qm_top : Int32) (qm_now_c : Nat → Int32) (hf_qm_now_c : slI qm_now_c) (hf1_qm_now_c : trI qm_now_c) : Ci l yX11_now cX11_now 2 (some .int) 1 0 0 G [.ref qm, .int a1] [(qm, .inr (10, [.int qm_thrown, .ref qm_tape, .int qm_taped, .int qm_size, .int qm_limit, .int qm_to, .int qm_from, .int qm_kind, .int qm_number, .int qm_sign, .int qm_fault, .int qm_place, .long qm_word, .int qm_told, .ref qm_now, .ref qm_read, .ref qm_kept, .ref qm_snaps, .ref qm_aside, .ref qm_name, .ref qm_readName, .ref qm_keptName, .ref qm_isKept, .ref qm_onces, .int qm_snapMany, .ref qm_order, .ref qm_ordered, .int qm_orderMany, .int qm_orderMost, .int qm_passing, .int qm_movedWho, .int qm_scratched, .ref qm_text, .int qm_texts, .int qm_seed, .ref qm_line, .ref qm_written, .int qm_lineMany, .int qm_hasWritten, .ref qm_node, .int qm_nodes, .int qm_onesMany, .int qm_within, .int qm_top])), (qm_now, eI G 339 qm_now_c)] (fun (r9 : Int32) (u9 : va_W) => ∃ (r_x : Int32), r9 = r_x ∧ u9 = [(qm, .inr (10, [.int 0, .ref qm_tape, .int qm_taped, .int qm_size, .int qm_limit, .int qm_to, .int qm_from, .int qm_kind, .int qm_number, .int qm_sign, .int qm_fault, .int qm_place, .long qm_word, .int qm_told, .ref qm_now, .ref qm_read, .ref qm_kept, .ref qm_snaps, .ref qm_aside, .ref qm_name, .ref qm_readName, .ref qm_keptName, .ref qm_isKept, .ref qm_onces, .int qm_snapMany, .ref qm_order, .ref qm_ordered, .int qm_orderMany, .int qm_orderMost, .int qm_passing, .int qm_movedWho, .int qm_scratched, .ref qm_text, .int qm_texts, .int qm_seed, .ref qm_line, .ref qm_written, .int qm_lineMany, .int qm_hasWritten, .ref qm_node, .int qm_nodes, .int qm_onesMany, .int qm_within, .int qm_top])), (qm_now, eI G 339 qm_now_c)]) := by
  refine Ci.ofQ (by decide) (Nat.le_of_ble_eq_true rfl) ?_
  intro p e s m below meth c ls A args Q hQ B hw hl
  have C : CallFix p m c cX11_now 2 s args gw "LanternStateModel" := B.1
  have hl : lv_has ls 2 [(0, .ref qm), (1, .int a1)] := hl
  refine lv_aload_n C.1 C.2.1 dX11_now_0 rfl (lv_at hl 0 rfl) ?_
  refine lv_iconst (v := 0) C.1 C.2.1 dX11_now_1 (by decide) ?_
  refine x_put (w' := [(qm, .inr (10, [.int 0, .ref qm_tape, .int qm_taped, .int qm_size, .int qm_limit, .int qm_to, .int qm_from, .int qm_kind, .int qm_number, .int qm_sign, .int qm_fault, .int qm_place, .long qm_word, .int qm_told, .ref qm_now, .ref qm_read, .ref qm_kept, .ref qm_snaps, .ref qm_aside, .ref qm_name, .ref qm_readName, .ref qm_keptName, .ref qm_isKept, .ref qm_onces, .int qm_snapMany, .ref qm_order, .ref qm_ordered, .int qm_orderMany, .int qm_orderMost, .int qm_passing, .int qm_movedWho, .int qm_scratched, .ref qm_text, .int qm_texts, .int qm_seed, .ref qm_line, .ref qm_written, .int qm_lineMany, .int qm_hasWritten, .ref qm_node, .int qm_nodes, .int qm_onesMany, .int qm_within, .int qm_top])), (qm_now, eI G 339 qm_now_c)]) C hw iwX11 tyX11_ok nmX11 10 rfl 0 rfl 0 (by decide) kw1193 rfl rfl rfl (Nat.le_of_ble_eq_true rfl) rfl dX11_now_2 (fun H locs hw => ?_)
  refine lv_iload_n C.1 C.2.1 dX11_now_5 rfl (lv_at hl 1 rfl) ?_
  have k1 : a1.toInt = 0 ∨ a1.toInt = 1 ∨ a1.toInt = 2 ∨ a1.toInt = 3 ∨ a1.toInt = 4 ∨ a1.toInt = 5 ∨ a1.toInt = 6 ∨ (a1.toInt ≠ 0 ∧ a1.toInt ≠ 1 ∧ a1.toInt ≠ 2 ∧ a1.toInt ≠ 3 ∧ a1.toInt ≠ 4 ∧ a1.toInt ≠ 5 ∧ a1.toInt ≠ 6) := by omega
  rcases k1 with k1 | k1 | k1 | k1 | k1 | k1 | k1 | k1
  · skip
    have k1 : a1 = 0 := Int32.toInt_inj.mp (by rw [k1]; rfl)
    refine x_topi (z := 0) k1 ?_
    refine lv_tableIn (off := 42) (tgt := 48) C.1 C.2.1 dX11_now_6 (by decide) (by decide) rfl (by decide) ?_
    have ha1_ := congrArg Int32.toInt k1
    have ha1_ : a1.toInt = 0 := ha1_
    refine lv_aload_n C.1 C.2.1 dX11_now_48 rfl (lv_at hl 0 rfl) ?_
    refine x_get C hw iwX11 10 rfl 0 rfl 14 (by decide) kw1207 rfl dX11_now_49 ?_
    refine lv_bipush (v := 64) C.1 C.2.1 dX11_now_52 (by decide) ?_
    refine x_iald (v := (qm_now_c 64)) C hw 1 rfl (x_in rfl) rfl dX11_now_54 (x_gen (fun v2 => ?_))
    exact x_retiQ hQ B hw ⟨v2, rfl, rfl⟩ (Nat.le_of_ble_eq_true rfl) (Nat.le_of_ble_eq_true rfl) dX11_now_55
  · skip
    have k1 : a1 = 1 := Int32.toInt_inj.mp (by rw [k1]; rfl)
    refine x_topi (z := 1) k1 ?_
    refine lv_tableIn (off := 50) (tgt := 56) C.1 C.2.1 dX11_now_6 (by decide) (by decide) rfl (by decide) ?_
    have ha1_ := congrArg Int32.toInt k1
    have ha1_ : a1.toInt = 1 := ha1_
    refine lv_aload_n C.1 C.2.1 dX11_now_56 rfl (lv_at hl 0 rfl) ?_
    refine x_get C hw iwX11 10 rfl 0 rfl 14 (by decide) kw1207 rfl dX11_now_57 ?_
    refine lv_bipush (v := 65) C.1 C.2.1 dX11_now_60 (by decide) ?_
    refine x_iald (v := (qm_now_c 65)) C hw 1 rfl (x_in rfl) rfl dX11_now_62 (x_gen (fun v3 => ?_))
    exact x_retiQ hQ B hw ⟨v3, rfl, rfl⟩ (Nat.le_of_ble_eq_true rfl) (Nat.le_of_ble_eq_true rfl) dX11_now_63
  · skip
    have k1 : a1 = 2 := Int32.toInt_inj.mp (by rw [k1]; rfl)
    refine x_topi (z := 2) k1 ?_
    refine lv_tableIn (off := 58) (tgt := 64) C.1 C.2.1 dX11_now_6 (by decide) (by decide) rfl (by decide) ?_
    have ha1_ := congrArg Int32.toInt k1
    have ha1_ : a1.toInt = 2 := ha1_
    refine lv_aload_n C.1 C.2.1 dX11_now_64 rfl (lv_at hl 0 rfl) ?_
    refine x_get C hw iwX11 10 rfl 0 rfl 14 (by decide) kw1207 rfl dX11_now_65 ?_
    refine lv_bipush (v := 66) C.1 C.2.1 dX11_now_68 (by decide) ?_
    refine x_iald (v := (qm_now_c 66)) C hw 1 rfl (x_in rfl) rfl dX11_now_70 (x_gen (fun v4 => ?_))
    exact x_retiQ hQ B hw ⟨v4, rfl, rfl⟩ (Nat.le_of_ble_eq_true rfl) (Nat.le_of_ble_eq_true rfl) dX11_now_71
  · skip
    have k1 : a1 = 3 := Int32.toInt_inj.mp (by rw [k1]; rfl)
    refine x_topi (z := 3) k1 ?_
    refine lv_tableIn (off := 66) (tgt := 72) C.1 C.2.1 dX11_now_6 (by decide) (by decide) rfl (by decide) ?_
    have ha1_ := congrArg Int32.toInt k1
    have ha1_ : a1.toInt = 3 := ha1_
    refine lv_aload_n C.1 C.2.1 dX11_now_72 rfl (lv_at hl 0 rfl) ?_
    refine x_get C hw iwX11 10 rfl 0 rfl 14 (by decide) kw1207 rfl dX11_now_73 ?_
    refine lv_bipush (v := 67) C.1 C.2.1 dX11_now_76 (by decide) ?_
    refine x_iald (v := (qm_now_c 67)) C hw 1 rfl (x_in rfl) rfl dX11_now_78 (x_gen (fun v5 => ?_))
    exact x_retiQ hQ B hw ⟨v5, rfl, rfl⟩ (Nat.le_of_ble_eq_true rfl) (Nat.le_of_ble_eq_true rfl) dX11_now_79
  · skip
    have k1 : a1 = 4 := Int32.toInt_inj.mp (by rw [k1]; rfl)
    refine x_topi (z := 4) k1 ?_
    refine lv_tableIn (off := 74) (tgt := 80) C.1 C.2.1 dX11_now_6 (by decide) (by decide) rfl (by decide) ?_
    have ha1_ := congrArg Int32.toInt k1
    have ha1_ : a1.toInt = 4 := ha1_
    refine lv_aload_n C.1 C.2.1 dX11_now_80 rfl (lv_at hl 0 rfl) ?_
    refine x_get C hw iwX11 10 rfl 0 rfl 14 (by decide) kw1207 rfl dX11_now_81 ?_
    refine lv_bipush (v := 68) C.1 C.2.1 dX11_now_84 (by decide) ?_
    refine x_iald (v := (qm_now_c 68)) C hw 1 rfl (x_in rfl) rfl dX11_now_86 (x_gen (fun v6 => ?_))
    exact x_retiQ hQ B hw ⟨v6, rfl, rfl⟩ (Nat.le_of_ble_eq_true rfl) (Nat.le_of_ble_eq_true rfl) dX11_now_87
  · skip
    have k1 : a1 = 5 := Int32.toInt_inj.mp (by rw [k1]; rfl)
    refine x_topi (z := 5) k1 ?_
    refine lv_tableIn (off := 82) (tgt := 88) C.1 C.2.1 dX11_now_6 (by decide) (by decide) rfl (by decide) ?_
    have ha1_ := congrArg Int32.toInt k1
    have ha1_ : a1.toInt = 5 := ha1_
    refine lv_aload_n C.1 C.2.1 dX11_now_88 rfl (lv_at hl 0 rfl) ?_
    refine x_calliV (As := []) (rest := []) (wr := []) C hw (s_X11_seats qm 0 qm_tape qm_taped qm_size qm_limit qm_to qm_from qm_kind qm_number qm_sign qm_fault qm_place qm_word qm_told qm_now qm_read qm_kept qm_snaps qm_aside qm_name qm_readName qm_keptName qm_isKept qm_onces qm_snapMany qm_order qm_ordered qm_orderMany qm_orderMost qm_passing qm_movedWho qm_scratched qm_text qm_texts qm_seed qm_line qm_written qm_lineMany qm_hasWritten qm_node qm_nodes qm_onesMany qm_within qm_top qm_now_c hf_qm_now_c hf1_qm_now_c) mwX11_seats kw1513 [0, 1] [] rfl rfl rfl rfl (by decide) 0 rfl rfl rfl rfl hl.1 rfl (Nat.le_of_ble_eq_true rfl) ⟨(Nat.le_of_ble_eq_true rfl), (Nat.le_of_ble_eq_true rfl)⟩ ⟨(Nat.le_of_ble_eq_true rfl), (Nat.le_of_ble_eq_true rfl)⟩ dX11_now_89 (fun r7 u9 H locs hp9 hw => ?_)
    obtain ⟨x8, rfl, rfl⟩ := hp9
    have hw : Wd G s A [(qm, .inr (10, [.int 0, .ref qm_tape, .int qm_taped, .int qm_size, .int qm_limit, .int qm_to, .int qm_from, .int qm_kind, .int qm_number, .int qm_sign, .int qm_fault, .int qm_place, .long qm_word, .int qm_told, .ref qm_now, .ref qm_read, .ref qm_kept, .ref qm_snaps, .ref qm_aside, .ref qm_name, .ref qm_readName, .ref qm_keptName, .ref qm_isKept, .ref qm_onces, .int qm_snapMany, .ref qm_order, .ref qm_ordered, .int qm_orderMany, .int qm_orderMost, .int qm_passing, .int qm_movedWho, .int qm_scratched, .ref qm_text, .int qm_texts, .int qm_seed, .ref qm_line, .ref qm_written, .int qm_lineMany, .int qm_hasWritten, .ref qm_node, .int qm_nodes, .int qm_onesMany, .int qm_within, .int qm_top])), (qm_now, eI G 339 qm_now_c)] H _ := hw
    exact x_retiQ hQ B hw ⟨r7, rfl, rfl⟩ (Nat.le_of_ble_eq_true rfl) (Nat.le_of_ble_eq_true rfl) dX11_now_92
  · skip
    have k1 : a1 = 6 := Int32.toInt_inj.mp (by rw [k1]; rfl)
    refine x_topi (z := 6) k1 ?_
    refine lv_tableIn (off := 87) (tgt := 93) C.1 C.2.1 dX11_now_6 (by decide) (by decide) rfl (by decide) ?_
    have ha1_ := congrArg Int32.toInt k1
    have ha1_ : a1.toInt = 6 := ha1_
    refine lv_aload_n C.1 C.2.1 dX11_now_93 rfl (lv_at hl 0 rfl) ?_
    refine x_calliV (As := []) (rest := []) (wr := []) C hw (s_X11_allSighs qm 0 qm_tape qm_taped qm_size qm_limit qm_to qm_from qm_kind qm_number qm_sign qm_fault qm_place qm_word qm_told qm_now qm_read qm_kept qm_snaps qm_aside qm_name qm_readName qm_keptName qm_isKept qm_onces qm_snapMany qm_order qm_ordered qm_orderMany qm_orderMost qm_passing qm_movedWho qm_scratched qm_text qm_texts qm_seed qm_line qm_written qm_lineMany qm_hasWritten qm_node qm_nodes qm_onesMany qm_within qm_top qm_now_c hf_qm_now_c hf1_qm_now_c) mwX11_allSighs kw1517 [0, 1] [] rfl rfl rfl rfl (by decide) 0 rfl rfl rfl rfl hl.1 rfl (Nat.le_of_ble_eq_true rfl) ⟨(Nat.le_of_ble_eq_true rfl), (Nat.le_of_ble_eq_true rfl)⟩ ⟨(Nat.le_of_ble_eq_true rfl), (Nat.le_of_ble_eq_true rfl)⟩ dX11_now_94 (fun r9 u9 H locs hp9 hw => ?_)
    obtain ⟨x10, rfl, rfl⟩ := hp9
    have hw : Wd G s A [(qm, .inr (10, [.int 0, .ref qm_tape, .int qm_taped, .int qm_size, .int qm_limit, .int qm_to, .int qm_from, .int qm_kind, .int qm_number, .int qm_sign, .int qm_fault, .int qm_place, .long qm_word, .int qm_told, .ref qm_now, .ref qm_read, .ref qm_kept, .ref qm_snaps, .ref qm_aside, .ref qm_name, .ref qm_readName, .ref qm_keptName, .ref qm_isKept, .ref qm_onces, .int qm_snapMany, .ref qm_order, .ref qm_ordered, .int qm_orderMany, .int qm_orderMost, .int qm_passing, .int qm_movedWho, .int qm_scratched, .ref qm_text, .int qm_texts, .int qm_seed, .ref qm_line, .ref qm_written, .int qm_lineMany, .int qm_hasWritten, .ref qm_node, .int qm_nodes, .int qm_onesMany, .int qm_within, .int qm_top])), (qm_now, eI G 339 qm_now_c)] H _ := hw
    exact x_retiQ hQ B hw ⟨r9, rfl, rfl⟩ (Nat.le_of_ble_eq_true rfl) (Nat.le_of_ble_eq_true rfl) dX11_now_97
  · skip
    refine lv_tableOut (tgt := 98) C.1 C.2.1 dX11_now_6 (by omega) (by decide) ?_
    refine lv_iconst (v := (-1)) C.1 C.2.1 dX11_now_98 (by decide) ?_
    exact x_retiQ hQ B hw ⟨(-1), rfl, rfl⟩ (Nat.le_of_ble_eq_true rfl) (Nat.le_of_ble_eq_true rfl) dX11_now_99
theorem dX11_sighs_0 : decode cX11_sighs 0 = .ok (.aload_n 0, 1) := by decide +kernel
theorem dX11_sighs_1 : decode cX11_sighs 1 = .ok (.iconst 0, 1) := by decide +kernel
theorem dX11_sighs_2 : decode cX11_sighs 2 = .ok (.putfield 1, 3) := by decide +kernel
theorem dX11_sighs_5 : decode cX11_sighs 5 = .ok (.aload_n 0, 1) := by decide +kernel
theorem dX11_sighs_6 : decode cX11_sighs 6 = .ok (.iload_n 1, 1) := by decide +kernel
theorem dX11_sighs_7 : decode cX11_sighs 7 = .ok (.invokevirtual 237, 3) := by decide +kernel
theorem dX11_sighs_10 : decode cX11_sighs 10 = .ok (.ifCond .eq 21, 3) := by decide +kernel
theorem dX11_sighs_31 : decode cX11_sighs 31 = .ok (.iconst (-1), 1) := by decide +kernel
theorem dX11_sighs_32 : decode cX11_sighs 32 = .ok (.ireturn, 1) := by decide +kernel
theorem dX11_sighs_13 : decode cX11_sighs 13 = .ok (.iload_n 2, 1) := by decide +kernel
theorem dX11_sighs_14 : decode cX11_sighs 14 = .ok (.iconst 0, 1) := by decide +kernel
theorem dX11_sighs_15 : decode cX11_sighs 15 = .ok (.iconst 3, 1) := by decide +kernel
theorem dX11_sighs_16 : decode cX11_sighs 16 = .ok (.invokestatic 75, 3) := by decide +kernel
theorem dX11_sighs_19 : decode cX11_sighs 19 = .ok (.ifCond .eq 12, 3) := by decide +kernel
theorem dX11_sighs_22 : decode cX11_sighs 22 = .ok (.aload_n 0, 1) := by decide +kernel
theorem dX11_sighs_23 : decode cX11_sighs 23 = .ok (.iload_n 1, 1) := by decide +kernel
theorem dX11_sighs_24 : decode cX11_sighs 24 = .ok (.iload_n 2, 1) := by decide +kernel
theorem dX11_sighs_25 : decode cX11_sighs 25 = .ok (.invokevirtual 276, 3) := by decide +kernel
theorem mwX11_sighsFor : MwV yX11_sighsFor cX11_sighsFor 3 (some .int) 2 := ⟨⟨kw1528, kw15, by decide +kernel⟩, kw1527, kS77⟩
theorem dX11_sighs_28 : decode cX11_sighs 28 = .ok (.goto 4, 3) := by decide +kernel
set_option maxHeartbeats 4000000 in
set_option maxRecDepth 100000 in
theorem s_X11_sighs {l : Launch} {G : Gc} (qm : Nat) (a1 : Int32) (a2 : Int32) (qm_thrown : Int32) (qm_tape : Nat) (qm_taped : Int32) (qm_size : Int32) (qm_limit : Int32) (qm_to : Int32) (qm_from : Int32) (qm_kind : Int32) (qm_number : Int32) (qm_sign : Int32) (qm_fault : Int32) (qm_place : Int32) (qm_word : Int64) (qm_told : Int32) (qm_now : Nat) (qm_read : Nat) (qm_kept : Nat) (qm_snaps : Nat) (qm_aside : Nat) (qm_name : Nat) (qm_readName : Nat) (qm_keptName : Nat) (qm_isKept : Nat) (qm_onces : Nat) (qm_snapMany : Int32) (qm_order : Nat) (qm_ordered : Nat) (qm_orderMany : Int32) (qm_orderMost : Int32) (qm_passing : Int32) (qm_movedWho : Int32) (qm_scratched : Int32) (qm_text : Nat) (qm_texts : Int32) (qm_seed : Int32) (qm_line : Nat) (qm_written : Nat) (qm_lineMany : Int32) (qm_hasWritten : Int32) (qm_node : Nat) (qm_nodes : Int32) (qm_onesMany : Int32) (qm_within : Int32) (qm_top : Int32) (qm_now_c : Nat → Int32) (hf_qm_now_c : slI qm_now_c) (hf1_qm_now_c : trI qm_now_c) : Ci l yX11_sighs cX11_sighs 3 (some .int) 4 0 0 G [.ref qm, .int a1, .int a2] [(qm, .inr (10, [.int qm_thrown, .ref qm_tape, .int qm_taped, .int qm_size, .int qm_limit, .int qm_to, .int qm_from, .int qm_kind, .int qm_number, .int qm_sign, .int qm_fault, .int qm_place, .long qm_word, .int qm_told, .ref qm_now, .ref qm_read, .ref qm_kept, .ref qm_snaps, .ref qm_aside, .ref qm_name, .ref qm_readName, .ref qm_keptName, .ref qm_isKept, .ref qm_onces, .int qm_snapMany, .ref qm_order, .ref qm_ordered, .int qm_orderMany, .int qm_orderMost, .int qm_passing, .int qm_movedWho, .int qm_scratched, .ref qm_text, .int qm_texts, .int qm_seed, .ref qm_line, .ref qm_written, .int qm_lineMany, .int qm_hasWritten, .ref qm_node, .int qm_nodes, .int qm_onesMany, .int qm_within, .int qm_top])), (qm_now, eI G 339 qm_now_c)] (fun (r9 : Int32) (u9 : va_W) => ∃ (r_x : Int32), r9 = r_x ∧ u9 = [(qm, .inr (10, [.int 0, .ref qm_tape, .int qm_taped, .int qm_size, .int qm_limit, .int qm_to, .int qm_from, .int qm_kind, .int qm_number, .int qm_sign, .int qm_fault, .int qm_place, .long qm_word, .int qm_told, .ref qm_now, .ref qm_read, .ref qm_kept, .ref qm_snaps, .ref qm_aside, .ref qm_name, .ref qm_readName, .ref qm_keptName, .ref qm_isKept, .ref qm_onces, .int qm_snapMany, .ref qm_order, .ref qm_ordered, .int qm_orderMany, .int qm_orderMost, .int qm_passing, .int qm_movedWho, .int qm_scratched, .ref qm_text, .int qm_texts, .int qm_seed, .ref qm_line, .ref qm_written, .int qm_lineMany, .int qm_hasWritten, .ref qm_node, .int qm_nodes, .int qm_onesMany, .int qm_within, .int qm_top])), (qm_now, eI G 339 qm_now_c)]) := by
  refine Ci.ofQ (by decide) (Nat.le_of_ble_eq_true rfl) ?_
  intro p e s m below meth c ls A args Q hQ B hw hl
  have C : CallFix p m c cX11_sighs 3 s args gw "LanternStateModel" := B.1
  have hl : lv_has ls 3 [(0, .ref qm), (1, .int a1), (2, .int a2)] := hl
  refine lv_aload_n C.1 C.2.1 dX11_sighs_0 rfl (lv_at hl 0 rfl) ?_
  refine lv_iconst (v := 0) C.1 C.2.1 dX11_sighs_1 (by decide) ?_
  refine x_put (w' := [(qm, .inr (10, [.int 0, .ref qm_tape, .int qm_taped, .int qm_size, .int qm_limit, .int qm_to, .int qm_from, .int qm_kind, .int qm_number, .int qm_sign, .int qm_fault, .int qm_place, .long qm_word, .int qm_told, .ref qm_now, .ref qm_read, .ref qm_kept, .ref qm_snaps, .ref qm_aside, .ref qm_name, .ref qm_readName, .ref qm_keptName, .ref qm_isKept, .ref qm_onces, .int qm_snapMany, .ref qm_order, .ref qm_ordered, .int qm_orderMany, .int qm_orderMost, .int qm_passing, .int qm_movedWho, .int qm_scratched, .ref qm_text, .int qm_texts, .int qm_seed, .ref qm_line, .ref qm_written, .int qm_lineMany, .int qm_hasWritten, .ref qm_node, .int qm_nodes, .int qm_onesMany, .int qm_within, .int qm_top])), (qm_now, eI G 339 qm_now_c)]) C hw iwX11 tyX11_ok nmX11 10 rfl 0 rfl 0 (by decide) kw1193 rfl rfl rfl (Nat.le_of_ble_eq_true rfl) rfl dX11_sighs_2 (fun H locs hw => ?_)
  refine lv_aload_n C.1 C.2.1 dX11_sighs_5 rfl (lv_at hl 0 rfl) ?_
  refine lv_iload_n C.1 C.2.1 dX11_sighs_6 rfl (lv_at hl 1 rfl) ?_
  refine x_calliV (As := [.int a1]) (rest := []) (wr := []) C hw (s_X11_isSlide qm a1 0 qm_tape qm_taped qm_size qm_limit qm_to qm_from qm_kind qm_number qm_sign qm_fault qm_place qm_word qm_told qm_now qm_read qm_kept qm_snaps qm_aside qm_name qm_readName qm_keptName qm_isKept qm_onces qm_snapMany qm_order qm_ordered qm_orderMany qm_orderMost qm_passing qm_movedWho qm_scratched qm_text qm_texts qm_seed qm_line qm_written qm_lineMany qm_hasWritten qm_node qm_nodes qm_onesMany qm_within qm_top qm_now_c hf_qm_now_c hf1_qm_now_c) mwX11_isSlide kw1465 [0, 1] [] rfl rfl rfl rfl (by decide) 0 rfl rfl rfl rfl hl.1 rfl (Nat.le_of_ble_eq_true rfl) ⟨(Nat.le_of_ble_eq_true rfl), (Nat.le_of_ble_eq_true rfl)⟩ ⟨(Nat.le_of_ble_eq_true rfl), (Nat.le_of_ble_eq_true rfl)⟩ dX11_sighs_7 (fun r1 u9 H locs hp9 hw => ?_)
  rcases hp9 with ⟨rfl, rfl⟩ | ⟨rfl, rfl, hf2, hf3⟩
  · skip
    have hw : Wd G s A [(qm, .inr (10, [.int 0, .ref qm_tape, .int qm_taped, .int qm_size, .int qm_limit, .int qm_to, .int qm_from, .int qm_kind, .int qm_number, .int qm_sign, .int qm_fault, .int qm_place, .long qm_word, .int qm_told, .ref qm_now, .ref qm_read, .ref qm_kept, .ref qm_snaps, .ref qm_aside, .ref qm_name, .ref qm_readName, .ref qm_keptName, .ref qm_isKept, .ref qm_onces, .int qm_snapMany, .ref qm_order, .ref qm_ordered, .int qm_orderMany, .int qm_orderMost, .int qm_passing, .int qm_movedWho, .int qm_scratched, .ref qm_text, .int qm_texts, .int qm_seed, .ref qm_line, .ref qm_written, .int qm_lineMany, .int qm_hasWritten, .ref qm_node, .int qm_nodes, .int qm_onesMany, .int qm_within, .int qm_top])), (qm_now, eI G 339 qm_now_c)] H _ := hw
    refine lv_if_eq (tgt := 31) C.1 C.2.1 dX11_sighs_10 (by decide) (fun _ => ?_) (fun h9 => absurd (by decide) h9)
    refine lv_iconst (v := (-1)) C.1 C.2.1 dX11_sighs_31 (by decide) ?_
    exact x_retiQ hQ B hw ⟨(-1), rfl, rfl⟩ (Nat.le_of_ble_eq_true rfl) (Nat.le_of_ble_eq_true rfl) dX11_sighs_32
  · skip
    have hw : Wd G s A [(qm, .inr (10, [.int 0, .ref qm_tape, .int qm_taped, .int qm_size, .int qm_limit, .int qm_to, .int qm_from, .int qm_kind, .int qm_number, .int qm_sign, .int qm_fault, .int qm_place, .long qm_word, .int qm_told, .ref qm_now, .ref qm_read, .ref qm_kept, .ref qm_snaps, .ref qm_aside, .ref qm_name, .ref qm_readName, .ref qm_keptName, .ref qm_isKept, .ref qm_onces, .int qm_snapMany, .ref qm_order, .ref qm_ordered, .int qm_orderMany, .int qm_orderMost, .int qm_passing, .int qm_movedWho, .int qm_scratched, .ref qm_text, .int qm_texts, .int qm_seed, .ref qm_line, .ref qm_written, .int qm_lineMany, .int qm_hasWritten, .ref qm_node, .int qm_nodes, .int qm_onesMany, .int qm_within, .int qm_top])), (qm_now, eI G 339 qm_now_c)] H _ := hw
    refine lv_if_eq (tgt := 31) C.1 C.2.1 dX11_sighs_10 (by decide) (fun h9 => absurd h9 (by decide)) (fun _ => ?_)
    refine lv_iload_n C.1 C.2.1 dX11_sighs_13 rfl (lv_at hl 2 rfl) ?_
    refine lv_iconst (v := 0) C.1 C.2.1 dX11_sighs_14 (by decide) ?_
    refine lv_iconst (v := 3) C.1 C.2.1 dX11_sighs_15 (by decide) ?_
    refine x_calliS (As := [.int a2, .int 0, .int 3]) (rest := []) (wr := [(qm, .inr (10, [.int 0, .ref qm_tape, .int qm_taped, .int qm_size, .int qm_limit, .int qm_to, .int qm_from, .int qm_kind, .int qm_number, .int qm_sign, .int qm_fault, .int qm_place, .long qm_word, .int qm_told, .ref qm_now, .ref qm_read, .ref qm_kept, .ref qm_snaps, .ref qm_aside, .ref qm_name, .ref qm_readName, .ref qm_keptName, .ref qm_isKept, .ref qm_onces, .int qm_snapMany, .ref qm_order, .ref qm_ordered, .int qm_orderMany, .int qm_orderMost, .int qm_passing, .int qm_movedWho, .int qm_scratched, .ref qm_text, .int qm_texts, .int qm_seed, .ref qm_line, .ref qm_written, .int qm_lineMany, .int qm_hasWritten, .ref qm_node, .int qm_nodes, .int qm_onesMany, .int qm_within, .int qm_top])), (qm_now, eI G 339 qm_now_c)]) C hw (s_X11_isIn a2 0 3) mwX11_isIn kw1396 [] [0, 1] rfl rfl rfl rfl (by decide) rfl hl.1 rfl (Nat.le_of_ble_eq_true rfl) ⟨(Nat.le_of_ble_eq_true rfl), (Nat.le_of_ble_eq_true rfl)⟩ ⟨(Nat.le_of_ble_eq_true rfl), (Nat.le_of_ble_eq_true rfl)⟩ dX11_sighs_16 (fun r4 u9 H locs hp9 hw => ?_)
    rcases hp9 with ⟨rfl, rfl, hf5⟩ | ⟨rfl, rfl, hf6, hf7⟩
    · skip
      have hw : Wd G s A [(qm, .inr (10, [.int 0, .ref qm_tape, .int qm_taped, .int qm_size, .int qm_limit, .int qm_to, .int qm_from, .int qm_kind, .int qm_number, .int qm_sign, .int qm_fault, .int qm_place, .long qm_word, .int qm_told, .ref qm_now, .ref qm_read, .ref qm_kept, .ref qm_snaps, .ref qm_aside, .ref qm_name, .ref qm_readName, .ref qm_keptName, .ref qm_isKept, .ref qm_onces, .int qm_snapMany, .ref qm_order, .ref qm_ordered, .int qm_orderMany, .int qm_orderMost, .int qm_passing, .int qm_movedWho, .int qm_scratched, .ref qm_text, .int qm_texts, .int qm_seed, .ref qm_line, .ref qm_written, .int qm_lineMany, .int qm_hasWritten, .ref qm_node, .int qm_nodes, .int qm_onesMany, .int qm_within, .int qm_top])), (qm_now, eI G 339 qm_now_c)] H _ := hw
      have hf5 : a2.toInt < 0 ∨ 3 < a2.toInt := by first | exact hf5 | (have e0 : (0 : Int32).toInt = 0 := rfl; have e1 : (3 : Int32).toInt = 3 := rfl; omega)
      refine lv_if_eq (tgt := 31) C.1 C.2.1 dX11_sighs_19 (by decide) (fun _ => ?_) (fun h9 => absurd (by decide) h9)
      refine lv_iconst (v := (-1)) C.1 C.2.1 dX11_sighs_31 (by decide) ?_
      exact x_retiQ hQ B hw ⟨(-1), rfl, rfl⟩ (Nat.le_of_ble_eq_true rfl) (Nat.le_of_ble_eq_true rfl) dX11_sighs_32
    · skip
      have hw : Wd G s A [(qm, .inr (10, [.int 0, .ref qm_tape, .int qm_taped, .int qm_size, .int qm_limit, .int qm_to, .int qm_from, .int qm_kind, .int qm_number, .int qm_sign, .int qm_fault, .int qm_place, .long qm_word, .int qm_told, .ref qm_now, .ref qm_read, .ref qm_kept, .ref qm_snaps, .ref qm_aside, .ref qm_name, .ref qm_readName, .ref qm_keptName, .ref qm_isKept, .ref qm_onces, .int qm_snapMany, .ref qm_order, .ref qm_ordered, .int qm_orderMany, .int qm_orderMost, .int qm_passing, .int qm_movedWho, .int qm_scratched, .ref qm_text, .int qm_texts, .int qm_seed, .ref qm_line, .ref qm_written, .int qm_lineMany, .int qm_hasWritten, .ref qm_node, .int qm_nodes, .int qm_onesMany, .int qm_within, .int qm_top])), (qm_now, eI G 339 qm_now_c)] H _ := hw
      have hf6 : 0 ≤ a2.toInt := by first | exact hf6 | (have e0 : (0 : Int32).toInt = 0 := rfl; omega)
      have hf7 : a2.toInt ≤ 3 := by first | exact hf7 | (have e0 : (3 : Int32).toInt = 3 := rfl; omega)
      refine lv_if_eq (tgt := 31) C.1 C.2.1 dX11_sighs_19 (by decide) (fun h9 => absurd h9 (by decide)) (fun _ => ?_)
      refine lv_aload_n C.1 C.2.1 dX11_sighs_22 rfl (lv_at hl 0 rfl) ?_
      refine lv_iload_n C.1 C.2.1 dX11_sighs_23 rfl (lv_at hl 1 rfl) ?_
      refine lv_iload_n C.1 C.2.1 dX11_sighs_24 rfl (lv_at hl 2 rfl) ?_
      refine x_calliV (As := [.int a1, .int a2]) (rest := []) (wr := []) C hw (s_X11_sighsFor qm a1 a2 0 qm_tape qm_taped qm_size qm_limit qm_to qm_from qm_kind qm_number qm_sign qm_fault qm_place qm_word qm_told qm_now qm_read qm_kept qm_snaps qm_aside qm_name qm_readName qm_keptName qm_isKept qm_onces qm_snapMany qm_order qm_ordered qm_orderMany qm_orderMost qm_passing qm_movedWho qm_scratched qm_text qm_texts qm_seed qm_line qm_written qm_lineMany qm_hasWritten qm_node qm_nodes qm_onesMany qm_within qm_top qm_now_c (by omega) hf_qm_now_c hf1_qm_now_c) mwX11_sighsFor kw1525 [0, 1] [] rfl rfl rfl rfl (by decide) 0 rfl rfl rfl rfl hl.1 rfl (Nat.le_of_ble_eq_true rfl) ⟨(Nat.le_of_ble_eq_true rfl), (Nat.le_of_ble_eq_true rfl)⟩ ⟨(Nat.le_of_ble_eq_true rfl), (Nat.le_of_ble_eq_true rfl)⟩ dX11_sighs_25 (fun r8 u9 H locs hp9 hw => ?_)
      obtain ⟨x9, rfl, rfl⟩ := hp9
      have hw : Wd G s A [(qm, .inr (10, [.int 0, .ref qm_tape, .int qm_taped, .int qm_size, .int qm_limit, .int qm_to, .int qm_from, .int qm_kind, .int qm_number, .int qm_sign, .int qm_fault, .int qm_place, .long qm_word, .int qm_told, .ref qm_now, .ref qm_read, .ref qm_kept, .ref qm_snaps, .ref qm_aside, .ref qm_name, .ref qm_readName, .ref qm_keptName, .ref qm_isKept, .ref qm_onces, .int qm_snapMany, .ref qm_order, .ref qm_ordered, .int qm_orderMany, .int qm_orderMost, .int qm_passing, .int qm_movedWho, .int qm_scratched, .ref qm_text, .int qm_texts, .int qm_seed, .ref qm_line, .ref qm_written, .int qm_lineMany, .int qm_hasWritten, .ref qm_node, .int qm_nodes, .int qm_onesMany, .int qm_within, .int qm_top])), (qm_now, eI G 339 qm_now_c)] H _ := hw
      refine lv_goto (tgt := 32) C.1 C.2.1 dX11_sighs_28 (by decide) ?_
      exact x_retiQ hQ B hw ⟨r8, rfl, rfl⟩ (Nat.le_of_ble_eq_true rfl) (Nat.le_of_ble_eq_true rfl) dX11_sighs_32
theorem dX11_best_0 : decode cX11_best 0 = .ok (.aload_n 0, 1) := by decide +kernel
theorem dX11_best_1 : decode cX11_best 1 = .ok (.iconst 0, 1) := by decide +kernel
theorem dX11_best_2 : decode cX11_best 2 = .ok (.putfield 1, 3) := by decide +kernel
theorem dX11_best_5 : decode cX11_best 5 = .ok (.aload_n 0, 1) := by decide +kernel
theorem dX11_best_6 : decode cX11_best 6 = .ok (.iload_n 1, 1) := by decide +kernel
theorem dX11_best_7 : decode cX11_best 7 = .ok (.invokevirtual 237, 3) := by decide +kernel
theorem dX11_best_10 : decode cX11_best 10 = .ok (.ifCond .ne 5, 3) := by decide +kernel
theorem dX11_best_13 : decode cX11_best 13 = .ok (.iconst (-1), 1) := by decide +kernel
theorem dX11_best_14 : decode cX11_best 14 = .ok (.ireturn, 1) := by decide +kernel
theorem dX11_best_15 : decode cX11_best 15 = .ok (.iconst 0, 1) := by decide +kernel
theorem dX11_best_16 : decode cX11_best 16 = .ok (.istore_n 2, 1) := by decide +kernel
theorem dX11_best_17 : decode cX11_best 17 = .ok (.iconst 1, 1) := by decide +kernel
theorem dX11_best_18 : decode cX11_best 18 = .ok (.istore_n 3, 1) := by decide +kernel
theorem dX11_best_19 : decode cX11_best 19 = .ok (.iload_n 3, 1) := by decide +kernel
theorem dX11_best_20 : decode cX11_best 20 = .ok (.iconst 4, 1) := by decide +kernel
theorem dX11_best_21 : decode cX11_best 21 = .ok (.if_icmp .ge 32, 3) := by decide +kernel
theorem dX11_best_24 : decode cX11_best 24 = .ok (.aload_n 0, 1) := by decide +kernel
theorem dX11_best_25 : decode cX11_best 25 = .ok (.iload_n 1, 1) := by decide +kernel
theorem dX11_best_26 : decode cX11_best 26 = .ok (.iload_n 3, 1) := by decide +kernel
theorem dX11_best_27 : decode cX11_best 27 = .ok (.invokevirtual 276, 3) := by decide +kernel
theorem dX11_best_30 : decode cX11_best 30 = .ok (.invokestatic 252, 3) := by decide +kernel
theorem dX11_best_33 : decode cX11_best 33 = .ok (.aload_n 0, 1) := by decide +kernel
theorem dX11_best_34 : decode cX11_best 34 = .ok (.iload_n 1, 1) := by decide +kernel
theorem dX11_best_35 : decode cX11_best 35 = .ok (.iload_n 2, 1) := by decide +kernel
theorem dX11_best_36 : decode cX11_best 36 = .ok (.invokevirtual 276, 3) := by decide +kernel
theorem dX11_best_39 : decode cX11_best 39 = .ok (.invokestatic 252, 3) := by decide +kernel
theorem dX11_best_42 : decode cX11_best 42 = .ok (.if_icmp .le 5, 3) := by decide +kernel
theorem dX11_best_45 : decode cX11_best 45 = .ok (.iload_n 3, 1) := by decide +kernel
theorem dX11_best_46 : decode cX11_best 46 = .ok (.istore_n 2, 1) := by decide +kernel
theorem dX11_best_47 : decode cX11_best 47 = .ok (.iinc 3 1, 3) := by decide +kernel
theorem dX11_best_50 : decode cX11_best 50 = .ok (.goto (-31), 3) := by decide +kernel
theorem dX11_best_53 : decode cX11_best 53 = .ok (.iload_n 2, 1) := by decide +kernel
theorem dX11_best_54 : decode cX11_best 54 = .ok (.ireturn, 1) := by decide +kernel
set_option maxHeartbeats 4000000 in
set_option maxRecDepth 100000 in
theorem s_X11_best {l : Launch} {G : Gc} (qm : Nat) (a1 : Int32) (qm_thrown : Int32) (qm_tape : Nat) (qm_taped : Int32) (qm_size : Int32) (qm_limit : Int32) (qm_to : Int32) (qm_from : Int32) (qm_kind : Int32) (qm_number : Int32) (qm_sign : Int32) (qm_fault : Int32) (qm_place : Int32) (qm_word : Int64) (qm_told : Int32) (qm_now : Nat) (qm_read : Nat) (qm_kept : Nat) (qm_snaps : Nat) (qm_aside : Nat) (qm_name : Nat) (qm_readName : Nat) (qm_keptName : Nat) (qm_isKept : Nat) (qm_onces : Nat) (qm_snapMany : Int32) (qm_order : Nat) (qm_ordered : Nat) (qm_orderMany : Int32) (qm_orderMost : Int32) (qm_passing : Int32) (qm_movedWho : Int32) (qm_scratched : Int32) (qm_text : Nat) (qm_texts : Int32) (qm_seed : Int32) (qm_line : Nat) (qm_written : Nat) (qm_lineMany : Int32) (qm_hasWritten : Int32) (qm_node : Nat) (qm_nodes : Int32) (qm_onesMany : Int32) (qm_within : Int32) (qm_top : Int32) (qm_now_c : Nat → Int32) (hf_qm_now_c : slI qm_now_c) (hf1_qm_now_c : trI qm_now_c) : Ci l yX11_best cX11_best 4 (some .int) 4 0 0 G [.ref qm, .int a1] [(qm, .inr (10, [.int qm_thrown, .ref qm_tape, .int qm_taped, .int qm_size, .int qm_limit, .int qm_to, .int qm_from, .int qm_kind, .int qm_number, .int qm_sign, .int qm_fault, .int qm_place, .long qm_word, .int qm_told, .ref qm_now, .ref qm_read, .ref qm_kept, .ref qm_snaps, .ref qm_aside, .ref qm_name, .ref qm_readName, .ref qm_keptName, .ref qm_isKept, .ref qm_onces, .int qm_snapMany, .ref qm_order, .ref qm_ordered, .int qm_orderMany, .int qm_orderMost, .int qm_passing, .int qm_movedWho, .int qm_scratched, .ref qm_text, .int qm_texts, .int qm_seed, .ref qm_line, .ref qm_written, .int qm_lineMany, .int qm_hasWritten, .ref qm_node, .int qm_nodes, .int qm_onesMany, .int qm_within, .int qm_top])), (qm_now, eI G 339 qm_now_c)] (fun (r9 : Int32) (u9 : va_W) => ∃ (r_x : Int32), r9 = r_x ∧ u9 = [(qm, .inr (10, [.int 0, .ref qm_tape, .int qm_taped, .int qm_size, .int qm_limit, .int qm_to, .int qm_from, .int qm_kind, .int qm_number, .int qm_sign, .int qm_fault, .int qm_place, .long qm_word, .int qm_told, .ref qm_now, .ref qm_read, .ref qm_kept, .ref qm_snaps, .ref qm_aside, .ref qm_name, .ref qm_readName, .ref qm_keptName, .ref qm_isKept, .ref qm_onces, .int qm_snapMany, .ref qm_order, .ref qm_ordered, .int qm_orderMany, .int qm_orderMost, .int qm_passing, .int qm_movedWho, .int qm_scratched, .ref qm_text, .int qm_texts, .int qm_seed, .ref qm_line, .ref qm_written, .int qm_lineMany, .int qm_hasWritten, .ref qm_node, .int qm_nodes, .int qm_onesMany, .int qm_within, .int qm_top])), (qm_now, eI G 339 qm_now_c)] ∧ ((-1) ≤ r_x.toInt ∧ r_x.toInt ≤ 3)) := by
  refine Ci.ofQ (by decide) (Nat.le_of_ble_eq_true rfl) ?_
  intro p e s m below meth c ls A args Q hQ B hw hl
  have C : CallFix p m c cX11_best 4 s args gw "LanternStateModel" := B.1
  have hl : lv_has ls 4 [(0, .ref qm), (1, .int a1)] := hl
  refine lv_aload_n C.1 C.2.1 dX11_best_0 rfl (lv_at hl 0 rfl) ?_
  refine lv_iconst (v := 0) C.1 C.2.1 dX11_best_1 (by decide) ?_
  refine x_put (w' := [(qm, .inr (10, [.int 0, .ref qm_tape, .int qm_taped, .int qm_size, .int qm_limit, .int qm_to, .int qm_from, .int qm_kind, .int qm_number, .int qm_sign, .int qm_fault, .int qm_place, .long qm_word, .int qm_told, .ref qm_now, .ref qm_read, .ref qm_kept, .ref qm_snaps, .ref qm_aside, .ref qm_name, .ref qm_readName, .ref qm_keptName, .ref qm_isKept, .ref qm_onces, .int qm_snapMany, .ref qm_order, .ref qm_ordered, .int qm_orderMany, .int qm_orderMost, .int qm_passing, .int qm_movedWho, .int qm_scratched, .ref qm_text, .int qm_texts, .int qm_seed, .ref qm_line, .ref qm_written, .int qm_lineMany, .int qm_hasWritten, .ref qm_node, .int qm_nodes, .int qm_onesMany, .int qm_within, .int qm_top])), (qm_now, eI G 339 qm_now_c)]) C hw iwX11 tyX11_ok nmX11 10 rfl 0 rfl 0 (by decide) kw1193 rfl rfl rfl (Nat.le_of_ble_eq_true rfl) rfl dX11_best_2 (fun H locs hw => ?_)
  refine lv_aload_n C.1 C.2.1 dX11_best_5 rfl (lv_at hl 0 rfl) ?_
  refine lv_iload_n C.1 C.2.1 dX11_best_6 rfl (lv_at hl 1 rfl) ?_
  refine x_calliV (As := [.int a1]) (rest := []) (wr := []) C hw (s_X11_isSlide qm a1 0 qm_tape qm_taped qm_size qm_limit qm_to qm_from qm_kind qm_number qm_sign qm_fault qm_place qm_word qm_told qm_now qm_read qm_kept qm_snaps qm_aside qm_name qm_readName qm_keptName qm_isKept qm_onces qm_snapMany qm_order qm_ordered qm_orderMany qm_orderMost qm_passing qm_movedWho qm_scratched qm_text qm_texts qm_seed qm_line qm_written qm_lineMany qm_hasWritten qm_node qm_nodes qm_onesMany qm_within qm_top qm_now_c hf_qm_now_c hf1_qm_now_c) mwX11_isSlide kw1465 [0, 1] [] rfl rfl rfl rfl (by decide) 0 rfl rfl rfl rfl hl.1 rfl (Nat.le_of_ble_eq_true rfl) ⟨(Nat.le_of_ble_eq_true rfl), (Nat.le_of_ble_eq_true rfl)⟩ ⟨(Nat.le_of_ble_eq_true rfl), (Nat.le_of_ble_eq_true rfl)⟩ dX11_best_7 (fun r1 u9 H locs hp9 hw => ?_)
  rcases hp9 with ⟨rfl, rfl⟩ | ⟨rfl, rfl, hf2, hf3⟩
  · skip
    have hw : Wd G s A [(qm, .inr (10, [.int 0, .ref qm_tape, .int qm_taped, .int qm_size, .int qm_limit, .int qm_to, .int qm_from, .int qm_kind, .int qm_number, .int qm_sign, .int qm_fault, .int qm_place, .long qm_word, .int qm_told, .ref qm_now, .ref qm_read, .ref qm_kept, .ref qm_snaps, .ref qm_aside, .ref qm_name, .ref qm_readName, .ref qm_keptName, .ref qm_isKept, .ref qm_onces, .int qm_snapMany, .ref qm_order, .ref qm_ordered, .int qm_orderMany, .int qm_orderMost, .int qm_passing, .int qm_movedWho, .int qm_scratched, .ref qm_text, .int qm_texts, .int qm_seed, .ref qm_line, .ref qm_written, .int qm_lineMany, .int qm_hasWritten, .ref qm_node, .int qm_nodes, .int qm_onesMany, .int qm_within, .int qm_top])), (qm_now, eI G 339 qm_now_c)] H _ := hw
    refine lv_if_ne (tgt := 15) C.1 C.2.1 dX11_best_10 (by decide) (fun h9 => absurd (by decide) h9) (fun _ => ?_)
    refine lv_iconst (v := (-1)) C.1 C.2.1 dX11_best_13 (by decide) ?_
    exact x_retiQ hQ B hw ⟨(-1), rfl, rfl, (by decide)⟩ (Nat.le_of_ble_eq_true rfl) (Nat.le_of_ble_eq_true rfl) dX11_best_14
  · skip
    have hw : Wd G s A [(qm, .inr (10, [.int 0, .ref qm_tape, .int qm_taped, .int qm_size, .int qm_limit, .int qm_to, .int qm_from, .int qm_kind, .int qm_number, .int qm_sign, .int qm_fault, .int qm_place, .long qm_word, .int qm_told, .ref qm_now, .ref qm_read, .ref qm_kept, .ref qm_snaps, .ref qm_aside, .ref qm_name, .ref qm_readName, .ref qm_keptName, .ref qm_isKept, .ref qm_onces, .int qm_snapMany, .ref qm_order, .ref qm_ordered, .int qm_orderMany, .int qm_orderMost, .int qm_passing, .int qm_movedWho, .int qm_scratched, .ref qm_text, .int qm_texts, .int qm_seed, .ref qm_line, .ref qm_written, .int qm_lineMany, .int qm_hasWritten, .ref qm_node, .int qm_nodes, .int qm_onesMany, .int qm_within, .int qm_top])), (qm_now, eI G 339 qm_now_c)] H _ := hw
    refine lv_if_ne (tgt := 15) C.1 C.2.1 dX11_best_10 (by decide) (fun _ => ?_) (fun h9 => absurd h9 (by decide))
    refine lv_iconst (v := 0) C.1 C.2.1 dX11_best_15 (by decide) ?_
    refine lv_istore_n (lv' := [(2, .int 0), (0, .ref qm), (1, .int a1)]) C.1 C.2.1 dX11_best_16 rfl hl (by decide) rfl (fun ls hl => ?_)
    refine lv_iconst (v := 1) C.1 C.2.1 dX11_best_17 (by decide) ?_
    refine lv_istore_n (lv' := [(3, .int 1), (2, .int 0), (0, .ref qm), (1, .int a1)]) C.1 C.2.1 dX11_best_18 rfl hl (by decide) rfl (fun ls hl => ?_)
    have loopJ50 : ∀ (n9 : Nat) (j48 : Int32) (j49 : Int32), (2147483647 - j48.toInt).toNat < n9 → (1 ≤ j48.toInt ∧ j48.toInt ≤ 4) → (0 ≤ j49.toInt ∧ j49.toInt ≤ 3) → ∀ (H : Heap) (locs : List Loc) (ls : Array Slot), Wd G s A [(qm, .inr (10, [.int 0, .ref qm_tape, .int qm_taped, .int qm_size, .int qm_limit, .int qm_to, .int qm_from, .int qm_kind, .int qm_number, .int qm_sign, .int qm_fault, .int qm_place, .long qm_word, .int qm_told, .ref qm_now, .ref qm_read, .ref qm_kept, .ref qm_snaps, .ref qm_aside, .ref qm_name, .ref qm_readName, .ref qm_keptName, .ref qm_isKept, .ref qm_onces, .int qm_snapMany, .ref qm_order, .ref qm_ordered, .int qm_orderMany, .int qm_orderMost, .int qm_passing, .int qm_movedWho, .int qm_scratched, .ref qm_text, .int qm_texts, .int qm_seed, .ref qm_line, .ref qm_written, .int qm_lineMany, .int qm_hasWritten, .ref qm_node, .int qm_nodes, .int qm_onesMany, .int qm_within, .int qm_top])), (qm_now, eI G 339 qm_now_c)] H locs → lv_has ls 4 [(3, .int j48), (2, .int j49), (0, .ref qm), (1, .int a1)] → W p l e (rmD 4 0 0) s m args below meth c H locs 0 0 Q (F0 m 19 ls []) := by
      intro n9
      induction n9 with
      | zero => intro j48 j49 h9; exact absurd h9 (Nat.not_lt_zero _)
      | succ n9 ihJ50 =>
        intro j48 j49 h9J50 hJ50_0 hJ50_1 H locs ls hw hl
        have hbj48 := i_bd j48
        refine lv_iload_n C.1 C.2.1 dX11_best_19 rfl (lv_at hl 0 rfl) ?_
        refine lv_iconst (v := 4) C.1 C.2.1 dX11_best_20 (by decide) ?_
        refine lv_icmp_ge (tgt := 53) C.1 C.2.1 dX11_best_21 (by decide) (fun c67 => ?_) (fun c67 => ?_)
        · skip
          have c67 : 4 ≤ j48.toInt := i_leT (X := 4) (Y := j48.toInt) rfl rfl c67
          refine lv_iload_n C.1 C.2.1 dX11_best_53 rfl (lv_at hl 1 rfl) ?_
          exact x_retiQ hQ B hw ⟨j49, rfl, rfl, (by omega)⟩ (Nat.le_of_ble_eq_true rfl) (Nat.le_of_ble_eq_true rfl) dX11_best_54
        · skip
          have c67 : j48.toInt < 4 := i_leF (X := 4) (Y := j48.toInt) rfl rfl c67
          refine lv_aload_n C.1 C.2.1 dX11_best_24 rfl (lv_at hl 2 rfl) ?_
          refine lv_iload_n C.1 C.2.1 dX11_best_25 rfl (lv_at hl 3 rfl) ?_
          refine lv_iload_n C.1 C.2.1 dX11_best_26 rfl (lv_at hl 0 rfl) ?_
          refine x_calliV (As := [.int a1, .int j48]) (rest := []) (wr := []) C hw (s_X11_sighsFor qm a1 j48 0 qm_tape qm_taped qm_size qm_limit qm_to qm_from qm_kind qm_number qm_sign qm_fault qm_place qm_word qm_told qm_now qm_read qm_kept qm_snaps qm_aside qm_name qm_readName qm_keptName qm_isKept qm_onces qm_snapMany qm_order qm_ordered qm_orderMany qm_orderMost qm_passing qm_movedWho qm_scratched qm_text qm_texts qm_seed qm_line qm_written qm_lineMany qm_hasWritten qm_node qm_nodes qm_onesMany qm_within qm_top qm_now_c (by omega) hf_qm_now_c hf1_qm_now_c) mwX11_sighsFor kw1525 [0, 1] [] rfl rfl rfl rfl (by decide) 0 rfl rfl rfl rfl hl.1 rfl (Nat.le_of_ble_eq_true rfl) ⟨(Nat.le_of_ble_eq_true rfl), (Nat.le_of_ble_eq_true rfl)⟩ ⟨(Nat.le_of_ble_eq_true rfl), (Nat.le_of_ble_eq_true rfl)⟩ dX11_best_27 (fun r68 u9 H locs hp9 hw => ?_)
          obtain ⟨x69, rfl, rfl⟩ := hp9
          have hw : Wd G s A [(qm, .inr (10, [.int 0, .ref qm_tape, .int qm_taped, .int qm_size, .int qm_limit, .int qm_to, .int qm_from, .int qm_kind, .int qm_number, .int qm_sign, .int qm_fault, .int qm_place, .long qm_word, .int qm_told, .ref qm_now, .ref qm_read, .ref qm_kept, .ref qm_snaps, .ref qm_aside, .ref qm_name, .ref qm_readName, .ref qm_keptName, .ref qm_isKept, .ref qm_onces, .int qm_snapMany, .ref qm_order, .ref qm_ordered, .int qm_orderMany, .int qm_orderMost, .int qm_passing, .int qm_movedWho, .int qm_scratched, .ref qm_text, .int qm_texts, .int qm_seed, .ref qm_line, .ref qm_written, .int qm_lineMany, .int qm_hasWritten, .ref qm_node, .int qm_nodes, .int qm_onesMany, .int qm_within, .int qm_top])), (qm_now, eI G 339 qm_now_c)] H _ := hw
          refine x_calliS (As := [.int r68]) (rest := []) (wr := [(qm, .inr (10, [.int 0, .ref qm_tape, .int qm_taped, .int qm_size, .int qm_limit, .int qm_to, .int qm_from, .int qm_kind, .int qm_number, .int qm_sign, .int qm_fault, .int qm_place, .long qm_word, .int qm_told, .ref qm_now, .ref qm_read, .ref qm_kept, .ref qm_snaps, .ref qm_aside, .ref qm_name, .ref qm_readName, .ref qm_keptName, .ref qm_isKept, .ref qm_onces, .int qm_snapMany, .ref qm_order, .ref qm_ordered, .int qm_orderMany, .int qm_orderMost, .int qm_passing, .int qm_movedWho, .int qm_scratched, .ref qm_text, .int qm_texts, .int qm_seed, .ref qm_line, .ref qm_written, .int qm_lineMany, .int qm_hasWritten, .ref qm_node, .int qm_nodes, .int qm_onesMany, .int qm_within, .int qm_top])), (qm_now, eI G 339 qm_now_c)]) C hw (s_X11_bits r68) mwX11_bits kw1484 [] [0, 1] rfl rfl rfl rfl (by decide) rfl hl.1 rfl (Nat.le_of_ble_eq_true rfl) ⟨(Nat.le_of_ble_eq_true rfl), (Nat.le_of_ble_eq_true rfl)⟩ ⟨(Nat.le_of_ble_eq_true rfl), (Nat.le_of_ble_eq_true rfl)⟩ dX11_best_30 (fun r70 u9 H locs hp9 hw => ?_)
          obtain ⟨x71, rfl, rfl⟩ := hp9
          have hw : Wd G s A [(qm, .inr (10, [.int 0, .ref qm_tape, .int qm_taped, .int qm_size, .int qm_limit, .int qm_to, .int qm_from, .int qm_kind, .int qm_number, .int qm_sign, .int qm_fault, .int qm_place, .long qm_word, .int qm_told, .ref qm_now, .ref qm_read, .ref qm_kept, .ref qm_snaps, .ref qm_aside, .ref qm_name, .ref qm_readName, .ref qm_keptName, .ref qm_isKept, .ref qm_onces, .int qm_snapMany, .ref qm_order, .ref qm_ordered, .int qm_orderMany, .int qm_orderMost, .int qm_passing, .int qm_movedWho, .int qm_scratched, .ref qm_text, .int qm_texts, .int qm_seed, .ref qm_line, .ref qm_written, .int qm_lineMany, .int qm_hasWritten, .ref qm_node, .int qm_nodes, .int qm_onesMany, .int qm_within, .int qm_top])), (qm_now, eI G 339 qm_now_c)] H _ := hw
          refine lv_aload_n C.1 C.2.1 dX11_best_33 rfl (lv_at hl 2 rfl) ?_
          refine lv_iload_n C.1 C.2.1 dX11_best_34 rfl (lv_at hl 3 rfl) ?_
          refine lv_iload_n C.1 C.2.1 dX11_best_35 rfl (lv_at hl 1 rfl) ?_
          refine x_calliV (As := [.int a1, .int j49]) (rest := [.int r70]) (wr := []) C hw (s_X11_sighsFor qm a1 j49 0 qm_tape qm_taped qm_size qm_limit qm_to qm_from qm_kind qm_number qm_sign qm_fault qm_place qm_word qm_told qm_now qm_read qm_kept qm_snaps qm_aside qm_name qm_readName qm_keptName qm_isKept qm_onces qm_snapMany qm_order qm_ordered qm_orderMany qm_orderMost qm_passing qm_movedWho qm_scratched qm_text qm_texts qm_seed qm_line qm_written qm_lineMany qm_hasWritten qm_node qm_nodes qm_onesMany qm_within qm_top qm_now_c (by omega) hf_qm_now_c hf1_qm_now_c) mwX11_sighsFor kw1525 [0, 1] [] rfl rfl rfl rfl (by decide) 0 rfl rfl rfl rfl hl.1 rfl (Nat.le_of_ble_eq_true rfl) ⟨(Nat.le_of_ble_eq_true rfl), (Nat.le_of_ble_eq_true rfl)⟩ ⟨(Nat.le_of_ble_eq_true rfl), (Nat.le_of_ble_eq_true rfl)⟩ dX11_best_36 (fun r72 u9 H locs hp9 hw => ?_)
          obtain ⟨x73, rfl, rfl⟩ := hp9
          have hw : Wd G s A [(qm, .inr (10, [.int 0, .ref qm_tape, .int qm_taped, .int qm_size, .int qm_limit, .int qm_to, .int qm_from, .int qm_kind, .int qm_number, .int qm_sign, .int qm_fault, .int qm_place, .long qm_word, .int qm_told, .ref qm_now, .ref qm_read, .ref qm_kept, .ref qm_snaps, .ref qm_aside, .ref qm_name, .ref qm_readName, .ref qm_keptName, .ref qm_isKept, .ref qm_onces, .int qm_snapMany, .ref qm_order, .ref qm_ordered, .int qm_orderMany, .int qm_orderMost, .int qm_passing, .int qm_movedWho, .int qm_scratched, .ref qm_text, .int qm_texts, .int qm_seed, .ref qm_line, .ref qm_written, .int qm_lineMany, .int qm_hasWritten, .ref qm_node, .int qm_nodes, .int qm_onesMany, .int qm_within, .int qm_top])), (qm_now, eI G 339 qm_now_c)] H _ := hw
          refine x_calliS (As := [.int r72]) (rest := [.int r70]) (wr := [(qm, .inr (10, [.int 0, .ref qm_tape, .int qm_taped, .int qm_size, .int qm_limit, .int qm_to, .int qm_from, .int qm_kind, .int qm_number, .int qm_sign, .int qm_fault, .int qm_place, .long qm_word, .int qm_told, .ref qm_now, .ref qm_read, .ref qm_kept, .ref qm_snaps, .ref qm_aside, .ref qm_name, .ref qm_readName, .ref qm_keptName, .ref qm_isKept, .ref qm_onces, .int qm_snapMany, .ref qm_order, .ref qm_ordered, .int qm_orderMany, .int qm_orderMost, .int qm_passing, .int qm_movedWho, .int qm_scratched, .ref qm_text, .int qm_texts, .int qm_seed, .ref qm_line, .ref qm_written, .int qm_lineMany, .int qm_hasWritten, .ref qm_node, .int qm_nodes, .int qm_onesMany, .int qm_within, .int qm_top])), (qm_now, eI G 339 qm_now_c)]) C hw (s_X11_bits r72) mwX11_bits kw1484 [] [0, 1] rfl rfl rfl rfl (by decide) rfl hl.1 rfl (Nat.le_of_ble_eq_true rfl) ⟨(Nat.le_of_ble_eq_true rfl), (Nat.le_of_ble_eq_true rfl)⟩ ⟨(Nat.le_of_ble_eq_true rfl), (Nat.le_of_ble_eq_true rfl)⟩ dX11_best_39 (fun r74 u9 H locs hp9 hw => ?_)
          obtain ⟨x75, rfl, rfl⟩ := hp9
          have hw : Wd G s A [(qm, .inr (10, [.int 0, .ref qm_tape, .int qm_taped, .int qm_size, .int qm_limit, .int qm_to, .int qm_from, .int qm_kind, .int qm_number, .int qm_sign, .int qm_fault, .int qm_place, .long qm_word, .int qm_told, .ref qm_now, .ref qm_read, .ref qm_kept, .ref qm_snaps, .ref qm_aside, .ref qm_name, .ref qm_readName, .ref qm_keptName, .ref qm_isKept, .ref qm_onces, .int qm_snapMany, .ref qm_order, .ref qm_ordered, .int qm_orderMany, .int qm_orderMost, .int qm_passing, .int qm_movedWho, .int qm_scratched, .ref qm_text, .int qm_texts, .int qm_seed, .ref qm_line, .ref qm_written, .int qm_lineMany, .int qm_hasWritten, .ref qm_node, .int qm_nodes, .int qm_onesMany, .int qm_within, .int qm_top])), (qm_now, eI G 339 qm_now_c)] H _ := hw
          have J78 : ∀ (j77 : Int32), (0 ≤ j77.toInt ∧ j77.toInt ≤ 3) → ∀ (H : Heap) (locs : List Loc) (ls : Array Slot), Wd G s A [(qm, .inr (10, [.int 0, .ref qm_tape, .int qm_taped, .int qm_size, .int qm_limit, .int qm_to, .int qm_from, .int qm_kind, .int qm_number, .int qm_sign, .int qm_fault, .int qm_place, .long qm_word, .int qm_told, .ref qm_now, .ref qm_read, .ref qm_kept, .ref qm_snaps, .ref qm_aside, .ref qm_name, .ref qm_readName, .ref qm_keptName, .ref qm_isKept, .ref qm_onces, .int qm_snapMany, .ref qm_order, .ref qm_ordered, .int qm_orderMany, .int qm_orderMost, .int qm_passing, .int qm_movedWho, .int qm_scratched, .ref qm_text, .int qm_texts, .int qm_seed, .ref qm_line, .ref qm_written, .int qm_lineMany, .int qm_hasWritten, .ref qm_node, .int qm_nodes, .int qm_onesMany, .int qm_within, .int qm_top])), (qm_now, eI G 339 qm_now_c)] H locs → lv_has ls 4 [(3, .int j48), (2, .int j77), (0, .ref qm), (1, .int a1)] → W p l e (rmD 4 0 0) s m args below meth c H locs 0 0 Q (F0 m 47 ls []) := by
            intro j77 hJ78_0 H locs ls hw hl
            obtain ⟨v80, ev80⟩ : ∃ z : Int32, j48 + 1 = z := ⟨_, rfl⟩
            have hv80 : v80.toInt = j48.toInt + 1 := by rw [← ev80]; exact i_add rfl rfl (by omega) (by omega)
            refine lv_iinc (v := v80) (lv' := [(3, .int v80), (2, .int j77), (0, .ref qm), (1, .int a1)]) C.1 C.2.1 dX11_best_47 hl (k := 0) rfl ev80 (by decide) rfl (fun ls hl => ?_)
            refine lv_goto (tgt := 19) C.1 C.2.1 dX11_best_50 (by decide) ?_
            exact ihJ50 v80 j77 (by omega) (by omega) (by omega) _ _ _ hw (lv_sub hl [0, 1, 2, 3] rfl)
          refine lv_icmp_le (tgt := 47) C.1 C.2.1 dX11_best_42 (by decide) (fun c76 => ?_) (fun c76 => ?_)
          · skip
            have c76 : r70.toInt ≤ r74.toInt := i_leT (X := r70.toInt) (Y := r74.toInt) rfl rfl c76
            have bc76_r70 := i_bd r70
            have bc76_r74 := i_bd r74
            exact J78 j49  (by omega) _ _ _ hw (lv_sub hl [0, 1, 2, 3] rfl)
          · skip
            have c76 : r74.toInt < r70.toInt := i_leF (X := r70.toInt) (Y := r74.toInt) rfl rfl c76
            have bc76_r70 := i_bd r70
            have bc76_r74 := i_bd r74
            refine lv_iload_n C.1 C.2.1 dX11_best_45 rfl (lv_at hl 0 rfl) ?_
            refine lv_istore_n (lv' := [(2, .int j48), (3, .int j48), (0, .ref qm), (1, .int a1)]) C.1 C.2.1 dX11_best_46 rfl hl (by decide) rfl (fun ls hl => ?_)
            exact J78 j48  (by omega) _ _ _ hw (lv_sub hl [1, 0, 2, 3] rfl)
    exact loopJ50 _ 1 0 (Nat.lt_succ_self _) (by decide) (by decide) _ _ _ hw (lv_sub hl [0, 1, 2, 3] rfl)
theorem dX11_spreads_0 : decode cX11_spreads 0 = .ok (.aload_n 0, 1) := by decide +kernel
theorem dX11_spreads_1 : decode cX11_spreads 1 = .ok (.iconst 0, 1) := by decide +kernel
theorem dX11_spreads_2 : decode cX11_spreads 2 = .ok (.putfield 1, 3) := by decide +kernel
theorem dX11_spreads_5 : decode cX11_spreads 5 = .ok (.iload_n 1, 1) := by decide +kernel
theorem dX11_spreads_6 : decode cX11_spreads 6 = .ok (.ifCond .lt 15, 3) := by decide +kernel
theorem dX11_spreads_21 : decode cX11_spreads 21 = .ok (.iconst (-1), 1) := by decide +kernel
theorem dX11_spreads_22 : decode cX11_spreads 22 = .ok (.goto 8, 3) := by decide +kernel
theorem dX11_spreads_30 : decode cX11_spreads 30 = .ok (.ireturn, 1) := by decide +kernel
theorem dX11_spreads_9 : decode cX11_spreads 9 = .ok (.iload_n 1, 1) := by decide +kernel
theorem dX11_spreads_10 : decode cX11_spreads 10 = .ok (.iconst 1, 1) := by decide +kernel
theorem dX11_spreads_11 : decode cX11_spreads 11 = .ok (.aload_n 0, 1) := by decide +kernel
theorem dX11_spreads_12 : decode cX11_spreads 12 = .ok (.getfield 98, 3) := by decide +kernel
theorem dX11_spreads_15 : decode cX11_spreads 15 = .ok (.iconst 1, 1) := by decide +kernel
theorem dX11_spreads_16 : decode cX11_spreads 16 = .ok (.iaload, 1) := by decide +kernel
theorem dX11_spreads_17 : decode cX11_spreads 17 = .ok (.ishl, 1) := by decide +kernel
theorem dX11_spreads_18 : decode cX11_spreads 18 = .ok (.if_icmp .lt 7, 3) := by decide +kernel
theorem dX11_spreads_25 : decode cX11_spreads 25 = .ok (.aload_n 0, 1) := by decide +kernel
theorem dX11_spreads_26 : decode cX11_spreads 26 = .ok (.iload_n 1, 1) := by decide +kernel
theorem dX11_spreads_27 : decode cX11_spreads 27 = .ok (.invokevirtual 270, 3) := by decide +kernel
set_option maxHeartbeats 4000000 in
set_option maxRecDepth 100000 in
theorem s_X11_spreads {l : Launch} {G : Gc} (qm : Nat) (a1 : Int32) (qm_thrown : Int32) (qm_tape : Nat) (qm_taped : Int32) (qm_size : Int32) (qm_limit : Int32) (qm_to : Int32) (qm_from : Int32) (qm_kind : Int32) (qm_number : Int32) (qm_sign : Int32) (qm_fault : Int32) (qm_place : Int32) (qm_word : Int64) (qm_told : Int32) (qm_now : Nat) (qm_read : Nat) (qm_kept : Nat) (qm_snaps : Nat) (qm_aside : Nat) (qm_name : Nat) (qm_readName : Nat) (qm_keptName : Nat) (qm_isKept : Nat) (qm_onces : Nat) (qm_snapMany : Int32) (qm_order : Nat) (qm_ordered : Nat) (qm_orderMany : Int32) (qm_orderMost : Int32) (qm_passing : Int32) (qm_movedWho : Int32) (qm_scratched : Int32) (qm_text : Nat) (qm_texts : Int32) (qm_seed : Int32) (qm_line : Nat) (qm_written : Nat) (qm_lineMany : Int32) (qm_hasWritten : Int32) (qm_node : Nat) (qm_nodes : Int32) (qm_onesMany : Int32) (qm_within : Int32) (qm_top : Int32) (qm_now_c : Nat → Int32) (hf_qm_now_c : slI qm_now_c) (hf1_qm_now_c : trI qm_now_c) : Ci l yX11_spreads cX11_spreads 2 (some .int) 2 0 0 G [.ref qm, .int a1] [(qm, .inr (10, [.int qm_thrown, .ref qm_tape, .int qm_taped, .int qm_size, .int qm_limit, .int qm_to, .int qm_from, .int qm_kind, .int qm_number, .int qm_sign, .int qm_fault, .int qm_place, .long qm_word, .int qm_told, .ref qm_now, .ref qm_read, .ref qm_kept, .ref qm_snaps, .ref qm_aside, .ref qm_name, .ref qm_readName, .ref qm_keptName, .ref qm_isKept, .ref qm_onces, .int qm_snapMany, .ref qm_order, .ref qm_ordered, .int qm_orderMany, .int qm_orderMost, .int qm_passing, .int qm_movedWho, .int qm_scratched, .ref qm_text, .int qm_texts, .int qm_seed, .ref qm_line, .ref qm_written, .int qm_lineMany, .int qm_hasWritten, .ref qm_node, .int qm_nodes, .int qm_onesMany, .int qm_within, .int qm_top])), (qm_now, eI G 339 qm_now_c)] (fun (r9 : Int32) (u9 : va_W) => ∃ (r_x : Int32), r9 = r_x ∧ u9 = [(qm, .inr (10, [.int 0, .ref qm_tape, .int qm_taped, .int qm_size, .int qm_limit, .int qm_to, .int qm_from, .int qm_kind, .int qm_number, .int qm_sign, .int qm_fault, .int qm_place, .long qm_word, .int qm_told, .ref qm_now, .ref qm_read, .ref qm_kept, .ref qm_snaps, .ref qm_aside, .ref qm_name, .ref qm_readName, .ref qm_keptName, .ref qm_isKept, .ref qm_onces, .int qm_snapMany, .ref qm_order, .ref qm_ordered, .int qm_orderMany, .int qm_orderMost, .int qm_passing, .int qm_movedWho, .int qm_scratched, .ref qm_text, .int qm_texts, .int qm_seed, .ref qm_line, .ref qm_written, .int qm_lineMany, .int qm_hasWritten, .ref qm_node, .int qm_nodes, .int qm_onesMany, .int qm_within, .int qm_top])), (qm_now, eI G 339 qm_now_c)]) := by
  refine Ci.ofQ (by decide) (Nat.le_of_ble_eq_true rfl) ?_
  intro p e s m below meth c ls A args Q hQ B hw hl
  have C : CallFix p m c cX11_spreads 2 s args gw "LanternStateModel" := B.1
  have hl : lv_has ls 2 [(0, .ref qm), (1, .int a1)] := hl
  refine lv_aload_n C.1 C.2.1 dX11_spreads_0 rfl (lv_at hl 0 rfl) ?_
  refine lv_iconst (v := 0) C.1 C.2.1 dX11_spreads_1 (by decide) ?_
  refine x_put (w' := [(qm, .inr (10, [.int 0, .ref qm_tape, .int qm_taped, .int qm_size, .int qm_limit, .int qm_to, .int qm_from, .int qm_kind, .int qm_number, .int qm_sign, .int qm_fault, .int qm_place, .long qm_word, .int qm_told, .ref qm_now, .ref qm_read, .ref qm_kept, .ref qm_snaps, .ref qm_aside, .ref qm_name, .ref qm_readName, .ref qm_keptName, .ref qm_isKept, .ref qm_onces, .int qm_snapMany, .ref qm_order, .ref qm_ordered, .int qm_orderMany, .int qm_orderMost, .int qm_passing, .int qm_movedWho, .int qm_scratched, .ref qm_text, .int qm_texts, .int qm_seed, .ref qm_line, .ref qm_written, .int qm_lineMany, .int qm_hasWritten, .ref qm_node, .int qm_nodes, .int qm_onesMany, .int qm_within, .int qm_top])), (qm_now, eI G 339 qm_now_c)]) C hw iwX11 tyX11_ok nmX11 10 rfl 0 rfl 0 (by decide) kw1193 rfl rfl rfl (Nat.le_of_ble_eq_true rfl) rfl dX11_spreads_2 (fun H locs hw => ?_)
  refine lv_iload_n C.1 C.2.1 dX11_spreads_5 rfl (lv_at hl 1 rfl) ?_
  refine lv_if_lt (tgt := 21) C.1 C.2.1 dX11_spreads_6 (by decide) (fun c1 => ?_) (fun c1 => ?_)
  · skip
    have c1 : a1.toInt < 0 := i_ltT (X := a1.toInt) (Y := 0) rfl rfl c1
    have bc1_a1 := i_bd a1
    refine lv_iconst (v := (-1)) C.1 C.2.1 dX11_spreads_21 (by decide) ?_
    refine lv_goto (tgt := 30) C.1 C.2.1 dX11_spreads_22 (by decide) ?_
    exact x_retiQ hQ B hw ⟨(-1), rfl, rfl⟩ (Nat.le_of_ble_eq_true rfl) (Nat.le_of_ble_eq_true rfl) dX11_spreads_30
  · skip
    have c1 : 0 ≤ a1.toInt := i_ltF (X := a1.toInt) (Y := 0) rfl rfl c1
    have bc1_a1 := i_bd a1
    refine lv_iload_n C.1 C.2.1 dX11_spreads_9 rfl (lv_at hl 1 rfl) ?_
    refine lv_iconst (v := 1) C.1 C.2.1 dX11_spreads_10 (by decide) ?_
    refine lv_aload_n C.1 C.2.1 dX11_spreads_11 rfl (lv_at hl 0 rfl) ?_
    refine x_get C hw iwX11 10 rfl 0 rfl 14 (by decide) kw1207 rfl dX11_spreads_12 ?_
    refine lv_iconst (v := 1) C.1 C.2.1 dX11_spreads_15 (by decide) ?_
    have mm2 := hf_qm_now_c 1
    refine x_iald (v := (qm_now_c 1)) C hw 1 rfl (x_in rfl) rfl dX11_spreads_16 (x_genP (fun z : Int32 => z.toInt = (qm_now_c 1).toInt ∧ 0 ≤ z.toInt ∧ z.toInt ≤ 8) ⟨rfl, by omega⟩ (fun v3 hv3 => ?_))
    refine lv_ishl C.1 C.2.1 dX11_spreads_17 (x_genP (fun z : Int32 => 1 ≤ z.toInt ∧ z.toInt ≤ 256) (i_shl1 (by omega) (by omega)) (fun v4 hv4 => ?_))
    refine lv_icmp_lt (tgt := 25) C.1 C.2.1 dX11_spreads_18 (by decide) (fun c5 => ?_) (fun c5 => ?_)
    · skip
      have c5 : a1.toInt < v4.toInt := i_ltT (X := a1.toInt) (Y := v4.toInt) rfl rfl c5
      have bc5_a1 := i_bd a1
      refine lv_aload_n C.1 C.2.1 dX11_spreads_25 rfl (lv_at hl 0 rfl) ?_
      refine lv_iload_n C.1 C.2.1 dX11_spreads_26 rfl (lv_at hl 1 rfl) ?_
      refine x_calliV (As := [.int a1]) (rest := []) (wr := []) C hw (s_X11_spreadFrom qm a1 0 qm_tape qm_taped qm_size qm_limit qm_to qm_from qm_kind qm_number qm_sign qm_fault qm_place qm_word qm_told qm_now qm_read qm_kept qm_snaps qm_aside qm_name qm_readName qm_keptName qm_isKept qm_onces qm_snapMany qm_order qm_ordered qm_orderMany qm_orderMost qm_passing qm_movedWho qm_scratched qm_text qm_texts qm_seed qm_line qm_written qm_lineMany qm_hasWritten qm_node qm_nodes qm_onesMany qm_within qm_top qm_now_c hf_qm_now_c hf1_qm_now_c) mwX11_spreadFrom kw1537 [0, 1] [] rfl rfl rfl rfl (by decide) 0 rfl rfl rfl rfl hl.1 rfl (Nat.le_of_ble_eq_true rfl) ⟨(Nat.le_of_ble_eq_true rfl), (Nat.le_of_ble_eq_true rfl)⟩ ⟨(Nat.le_of_ble_eq_true rfl), (Nat.le_of_ble_eq_true rfl)⟩ dX11_spreads_27 (fun r6 u9 H locs hp9 hw => ?_)
      obtain ⟨x7, rfl, rfl⟩ := hp9
      have hw : Wd G s A [(qm, .inr (10, [.int 0, .ref qm_tape, .int qm_taped, .int qm_size, .int qm_limit, .int qm_to, .int qm_from, .int qm_kind, .int qm_number, .int qm_sign, .int qm_fault, .int qm_place, .long qm_word, .int qm_told, .ref qm_now, .ref qm_read, .ref qm_kept, .ref qm_snaps, .ref qm_aside, .ref qm_name, .ref qm_readName, .ref qm_keptName, .ref qm_isKept, .ref qm_onces, .int qm_snapMany, .ref qm_order, .ref qm_ordered, .int qm_orderMany, .int qm_orderMost, .int qm_passing, .int qm_movedWho, .int qm_scratched, .ref qm_text, .int qm_texts, .int qm_seed, .ref qm_line, .ref qm_written, .int qm_lineMany, .int qm_hasWritten, .ref qm_node, .int qm_nodes, .int qm_onesMany, .int qm_within, .int qm_top])), (qm_now, eI G 339 qm_now_c)] H _ := hw
      exact x_retiQ hQ B hw ⟨r6, rfl, rfl⟩ (Nat.le_of_ble_eq_true rfl) (Nat.le_of_ble_eq_true rfl) dX11_spreads_30
    · skip
      have c5 : v4.toInt ≤ a1.toInt := i_ltF (X := a1.toInt) (Y := v4.toInt) rfl rfl c5
      have bc5_a1 := i_bd a1
      refine lv_iconst (v := (-1)) C.1 C.2.1 dX11_spreads_21 (by decide) ?_
      refine lv_goto (tgt := 30) C.1 C.2.1 dX11_spreads_22 (by decide) ?_
      exact x_retiQ hQ B hw ⟨(-1), rfl, rfl⟩ (Nat.le_of_ble_eq_true rfl) (Nat.le_of_ble_eq_true rfl) dX11_spreads_30
theorem dX11_fault_0 : decode cX11_fault 0 = .ok (.aload_n 0, 1) := by decide +kernel
theorem dX11_fault_1 : decode cX11_fault 1 = .ok (.iconst 0, 1) := by decide +kernel
theorem dX11_fault_2 : decode cX11_fault 2 = .ok (.putfield 1, 3) := by decide +kernel
theorem dX11_fault_5 : decode cX11_fault 5 = .ok (.aload_n 0, 1) := by decide +kernel
theorem dX11_fault_6 : decode cX11_fault 6 = .ok (.getfield 66, 3) := by decide +kernel
theorem dX11_fault_9 : decode cX11_fault 9 = .ok (.ireturn, 1) := by decide +kernel
set_option maxHeartbeats 4000000 in
set_option maxRecDepth 100000 in
theorem s_X11_fault {l : Launch} {G : Gc} (qm : Nat) (qm_thrown : Int32) (qm_tape : Nat) (qm_taped : Int32) (qm_size : Int32) (qm_limit : Int32) (qm_to : Int32) (qm_from : Int32) (qm_kind : Int32) (qm_number : Int32) (qm_sign : Int32) (qm_fault : Int32) (qm_place : Int32) (qm_word : Int64) (qm_told : Int32) (qm_now : Nat) (qm_read : Nat) (qm_kept : Nat) (qm_snaps : Nat) (qm_aside : Nat) (qm_name : Nat) (qm_readName : Nat) (qm_keptName : Nat) (qm_isKept : Nat) (qm_onces : Nat) (qm_snapMany : Int32) (qm_order : Nat) (qm_ordered : Nat) (qm_orderMany : Int32) (qm_orderMost : Int32) (qm_passing : Int32) (qm_movedWho : Int32) (qm_scratched : Int32) (qm_text : Nat) (qm_texts : Int32) (qm_seed : Int32) (qm_line : Nat) (qm_written : Nat) (qm_lineMany : Int32) (qm_hasWritten : Int32) (qm_node : Nat) (qm_nodes : Int32) (qm_onesMany : Int32) (qm_within : Int32) (qm_top : Int32)  : Ci l yX11_fault cX11_fault 1 (some .int) 0 0 0 G [.ref qm] [(qm, .inr (10, [.int qm_thrown, .ref qm_tape, .int qm_taped, .int qm_size, .int qm_limit, .int qm_to, .int qm_from, .int qm_kind, .int qm_number, .int qm_sign, .int qm_fault, .int qm_place, .long qm_word, .int qm_told, .ref qm_now, .ref qm_read, .ref qm_kept, .ref qm_snaps, .ref qm_aside, .ref qm_name, .ref qm_readName, .ref qm_keptName, .ref qm_isKept, .ref qm_onces, .int qm_snapMany, .ref qm_order, .ref qm_ordered, .int qm_orderMany, .int qm_orderMost, .int qm_passing, .int qm_movedWho, .int qm_scratched, .ref qm_text, .int qm_texts, .int qm_seed, .ref qm_line, .ref qm_written, .int qm_lineMany, .int qm_hasWritten, .ref qm_node, .int qm_nodes, .int qm_onesMany, .int qm_within, .int qm_top]))] (fun (r9 : Int32) (u9 : va_W) => r9 = qm_fault ∧ u9 = [(qm, .inr (10, [.int 0, .ref qm_tape, .int qm_taped, .int qm_size, .int qm_limit, .int qm_to, .int qm_from, .int qm_kind, .int qm_number, .int qm_sign, .int qm_fault, .int qm_place, .long qm_word, .int qm_told, .ref qm_now, .ref qm_read, .ref qm_kept, .ref qm_snaps, .ref qm_aside, .ref qm_name, .ref qm_readName, .ref qm_keptName, .ref qm_isKept, .ref qm_onces, .int qm_snapMany, .ref qm_order, .ref qm_ordered, .int qm_orderMany, .int qm_orderMost, .int qm_passing, .int qm_movedWho, .int qm_scratched, .ref qm_text, .int qm_texts, .int qm_seed, .ref qm_line, .ref qm_written, .int qm_lineMany, .int qm_hasWritten, .ref qm_node, .int qm_nodes, .int qm_onesMany, .int qm_within, .int qm_top]))]) := by
  refine Ci.ofQ (by decide) (Nat.le_of_ble_eq_true rfl) ?_
  intro p e s m below meth c ls A args Q hQ B hw hl
  have C : CallFix p m c cX11_fault 1 s args gw "LanternStateModel" := B.1
  have hl : lv_has ls 1 [(0, .ref qm)] := hl
  refine lv_aload_n C.1 C.2.1 dX11_fault_0 rfl (lv_at hl 0 rfl) ?_
  refine lv_iconst (v := 0) C.1 C.2.1 dX11_fault_1 (by decide) ?_
  refine x_put (w' := [(qm, .inr (10, [.int 0, .ref qm_tape, .int qm_taped, .int qm_size, .int qm_limit, .int qm_to, .int qm_from, .int qm_kind, .int qm_number, .int qm_sign, .int qm_fault, .int qm_place, .long qm_word, .int qm_told, .ref qm_now, .ref qm_read, .ref qm_kept, .ref qm_snaps, .ref qm_aside, .ref qm_name, .ref qm_readName, .ref qm_keptName, .ref qm_isKept, .ref qm_onces, .int qm_snapMany, .ref qm_order, .ref qm_ordered, .int qm_orderMany, .int qm_orderMost, .int qm_passing, .int qm_movedWho, .int qm_scratched, .ref qm_text, .int qm_texts, .int qm_seed, .ref qm_line, .ref qm_written, .int qm_lineMany, .int qm_hasWritten, .ref qm_node, .int qm_nodes, .int qm_onesMany, .int qm_within, .int qm_top]))]) C hw iwX11 tyX11_ok nmX11 10 rfl 0 rfl 0 (by decide) kw1193 rfl rfl rfl (Nat.le_of_ble_eq_true rfl) rfl dX11_fault_2 (fun H locs hw => ?_)
  refine lv_aload_n C.1 C.2.1 dX11_fault_5 rfl (lv_at hl 0 rfl) ?_
  refine x_get C hw iwX11 10 rfl 0 rfl 10 (by decide) kw1203 rfl dX11_fault_6 ?_
  exact x_retiQ hQ B hw ⟨rfl, rfl⟩ (Nat.le_of_ble_eq_true rfl) (Nat.le_of_ble_eq_true rfl) dX11_fault_9
