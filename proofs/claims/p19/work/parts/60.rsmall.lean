-- needs: 08 6
set_option maxHeartbeats 4000000 in
set_option maxRecDepth 100000 in
theorem s_X11_isIn {l : Launch} {G : Gc} (a1 : Int32) (a2 : Int32) (a3 : Int32)  : Ci l yX11_isIn cX11_isIn 3 (some .boolean) 0 0 0 G [.int a1, .int a2, .int a3] [] (fun (r9 : Int32) (u9 : va_W) => (r9 = 0 ∧ u9 = [] ∧ (a1.toInt < a2.toInt ∨ a3.toInt < a1.toInt)) ∨ (r9 = 1 ∧ u9 = [] ∧ (a2.toInt ≤ a1.toInt) ∧ (a1.toInt ≤ a3.toInt))) := by
  refine Ci.ofQ (by decide) (Nat.le_of_ble_eq_true rfl) ?_
  intro p e s m below meth c ls A args Q hQ B hw hl
  have C : CallFix p m c cX11_isIn 3 s args gw "LanternStateModel" := B.1
  have hl : lv_has ls 3 [(0, .int a1), (1, .int a2), (2, .int a3)] := hl
  refine lv_iload_n C.1 C.2.1 dX11_isIn_0 rfl (lv_at hl 0 rfl) ?_
  refine lv_iload_n C.1 C.2.1 dX11_isIn_1 rfl (lv_at hl 1 rfl) ?_
  refine lv_icmp_lt (tgt := 14) C.1 C.2.1 dX11_isIn_2 (by decide) (fun c1 => ?_) (fun c1 => ?_)
  · skip
    have c1 : a1.toInt < a2.toInt := i_ltT (X := a1.toInt) (Y := a2.toInt) rfl rfl c1
    have bc1_a1 := i_bd a1
    have bc1_a2 := i_bd a2
    refine lv_iconst (v := 0) C.1 C.2.1 dX11_isIn_14 (by decide) ?_
    exact x_retzQ hQ B hw rfl (Or.inl ⟨rfl, rfl, (by omega)⟩) (Nat.le_of_ble_eq_true rfl) (Nat.le_of_ble_eq_true rfl) dX11_isIn_15
  · skip
    have c1 : a2.toInt ≤ a1.toInt := i_ltF (X := a1.toInt) (Y := a2.toInt) rfl rfl c1
    have bc1_a1 := i_bd a1
    have bc1_a2 := i_bd a2
    refine lv_iload_n C.1 C.2.1 dX11_isIn_5 rfl (lv_at hl 0 rfl) ?_
    refine lv_iload_n C.1 C.2.1 dX11_isIn_6 rfl (lv_at hl 2 rfl) ?_
    refine lv_icmp_gt (tgt := 14) C.1 C.2.1 dX11_isIn_7 (by decide) (fun c2 => ?_) (fun c2 => ?_)
    · skip
      have c2 : a3.toInt < a1.toInt := i_ltT (X := a3.toInt) (Y := a1.toInt) rfl rfl c2
      have bc2_a1 := i_bd a1
      have bc2_a3 := i_bd a3
      refine lv_iconst (v := 0) C.1 C.2.1 dX11_isIn_14 (by decide) ?_
      exact x_retzQ hQ B hw rfl (Or.inl ⟨rfl, rfl, (by omega)⟩) (Nat.le_of_ble_eq_true rfl) (Nat.le_of_ble_eq_true rfl) dX11_isIn_15
    · skip
      have c2 : a1.toInt ≤ a3.toInt := i_ltF (X := a3.toInt) (Y := a1.toInt) rfl rfl c2
      have bc2_a1 := i_bd a1
      have bc2_a3 := i_bd a3
      refine lv_iconst (v := 1) C.1 C.2.1 dX11_isIn_10 (by decide) ?_
      refine lv_goto (tgt := 15) C.1 C.2.1 dX11_isIn_11 (by decide) ?_
      exact x_retzQ hQ B hw rfl (Or.inr ⟨rfl, rfl, (by omega), (by omega)⟩) (Nat.le_of_ble_eq_true rfl) (Nat.le_of_ble_eq_true rfl) dX11_isIn_15
set_option maxHeartbeats 4000000 in
set_option maxRecDepth 100000 in
theorem s_X11_has {l : Launch} {G : Gc} (a1 : Int32) (a2 : Int32)  : Ci l yX11_has cX11_has 2 (some .boolean) 0 0 0 G [.int a1, .int a2] [] (fun (r9 : Int32) (u9 : va_W) => (r9 = 0 ∧ u9 = []) ∨ (r9 = 1 ∧ u9 = [] ∧ (hasB a1 a2))) := by
  refine Ci.ofQ (by decide) (Nat.le_of_ble_eq_true rfl) ?_
  intro p e s m below meth c ls A args Q hQ B hw hl
  have C : CallFix p m c cX11_has 2 s args gw "LanternStateModel" := B.1
  have hl : lv_has ls 2 [(0, .int a1), (1, .int a2)] := hl
  refine lv_iload_n C.1 C.2.1 dX11_has_0 rfl (lv_at hl 0 rfl) ?_
  refine lv_iload_n C.1 C.2.1 dX11_has_1 rfl (lv_at hl 1 rfl) ?_
  refine lv_ishr C.1 C.2.1 dX11_has_2 (x_genP (fun z : Int32 => z = a1 >>> (a2 &&& 31)) rfl (fun v1 hv1 => ?_))
  refine lv_iconst (v := 1) C.1 C.2.1 dX11_has_3 (by decide) ?_
  refine lv_iand C.1 C.2.1 dX11_has_4 (x_genP (fun z : Int32 => z = v1 &&& 1) rfl (fun v2 hv2 => ?_))
  refine lv_iconst (v := 1) C.1 C.2.1 dX11_has_5 (by decide) ?_
  refine lv_icmp_ne (tgt := 13) C.1 C.2.1 dX11_has_6 (by decide) (fun c3 => ?_) (fun c3 => ?_)
  · skip
    have c3 : v2.toInt ≠ 1 := i_eqF (X := v2.toInt) (Y := 1) rfl rfl c3
    have bc3_v2 := i_bd v2
    refine lv_iconst (v := 0) C.1 C.2.1 dX11_has_13 (by decide) ?_
    exact x_retzQ hQ B hw rfl (Or.inl ⟨rfl, rfl⟩) (Nat.le_of_ble_eq_true rfl) (Nat.le_of_ble_eq_true rfl) dX11_has_14
  · skip
    have c3 : v2.toInt = 1 := i_eqT (X := v2.toInt) (Y := 1) rfl rfl c3
    have bc3_v2 := i_bd v2
    refine lv_iconst (v := 1) C.1 C.2.1 dX11_has_9 (by decide) ?_
    refine lv_goto (tgt := 14) C.1 C.2.1 dX11_has_10 (by decide) ?_
    exact x_retzQ hQ B hw rfl (Or.inr ⟨rfl, rfl, (by rw [hasB, ← hv1, ← hv2]; exact i_eqL (y := 1) (Y := 1) rfl (by omega))⟩) (Nat.le_of_ble_eq_true rfl) (Nat.le_of_ble_eq_true rfl) dX11_has_14
theorem dX11_bits_0 : decode cX11_bits 0 = .ok (.iconst 0, 1) := by decide +kernel
theorem dX11_bits_1 : decode cX11_bits 1 = .ok (.istore_n 1, 1) := by decide +kernel
theorem dX11_bits_2 : decode cX11_bits 2 = .ok (.iload_n 0, 1) := by decide +kernel
theorem dX11_bits_3 : decode cX11_bits 3 = .ok (.istore_n 2, 1) := by decide +kernel
theorem dX11_bits_4 : decode cX11_bits 4 = .ok (.iload_n 2, 1) := by decide +kernel
theorem dX11_bits_5 : decode cX11_bits 5 = .ok (.ifCond .eq 15, 3) := by decide +kernel
theorem dX11_bits_8 : decode cX11_bits 8 = .ok (.iinc 1 1, 3) := by decide +kernel
theorem dX11_bits_11 : decode cX11_bits 11 = .ok (.iload_n 2, 1) := by decide +kernel
theorem dX11_bits_12 : decode cX11_bits 12 = .ok (.iload_n 2, 1) := by decide +kernel
theorem dX11_bits_13 : decode cX11_bits 13 = .ok (.iconst 1, 1) := by decide +kernel
theorem dX11_bits_14 : decode cX11_bits 14 = .ok (.isub, 1) := by decide +kernel
theorem dX11_bits_15 : decode cX11_bits 15 = .ok (.iand, 1) := by decide +kernel
theorem dX11_bits_16 : decode cX11_bits 16 = .ok (.istore_n 2, 1) := by decide +kernel
theorem dX11_bits_17 : decode cX11_bits 17 = .ok (.goto (-13), 3) := by decide +kernel
theorem dX11_bits_20 : decode cX11_bits 20 = .ok (.iload_n 1, 1) := by decide +kernel
theorem dX11_bits_21 : decode cX11_bits 21 = .ok (.ireturn, 1) := by decide +kernel
set_option maxHeartbeats 4000000 in
set_option maxRecDepth 100000 in
theorem s_X11_bits {l : Launch} {G : Gc} (a1 : Int32)  : Ci l yX11_bits cX11_bits 3 (some .int) 0 0 0 G [.int a1] [] (fun (r9 : Int32) (u9 : va_W) => ∃ (r_x : Int32), r9 = r_x ∧ u9 = []) := by
  refine Ci.ofQ (by decide) (Nat.le_of_ble_eq_true rfl) ?_
  intro p e s m below meth c ls A args Q hQ B hw hl
  have C : CallFix p m c cX11_bits 3 s args gw "LanternStateModel" := B.1
  have hl : lv_has ls 3 [(0, .int a1)] := hl
  refine lv_iconst (v := 0) C.1 C.2.1 dX11_bits_0 (by decide) ?_
  refine lv_istore_n (lv' := [(1, .int 0), (0, .int a1)]) C.1 C.2.1 dX11_bits_1 rfl hl (by decide) rfl (fun ls hl => ?_)
  refine lv_iload_n C.1 C.2.1 dX11_bits_2 rfl (lv_at hl 1 rfl) ?_
  refine lv_istore_n (lv' := [(2, .int a1), (1, .int 0), (0, .int a1)]) C.1 C.2.1 dX11_bits_3 rfl hl (by decide) rfl (fun ls hl => ?_)
  have loopJ182 : ∀ (n9 : Nat) (j180 : Int32) (j181 : Int32), j180.toUInt32.toNat < n9 → ∀ (H : Heap) (locs : List Loc) (ls : Array Slot), Wd G s A [] H locs → lv_has ls 3 [(2, .int j180), (1, .int j181)] → W p l e (rmD 0 0 0) s m args below meth c H locs 0 0 Q (F0 m 4 ls []) := by
    intro n9
    induction n9 with
    | zero => intro j180 j181 h9; exact absurd h9 (Nat.not_lt_zero _)
    | succ n9 ihJ182 =>
      intro j180 j181 h9J182  H locs ls hw hl
      refine lv_iload_n C.1 C.2.1 dX11_bits_4 rfl (lv_at hl 0 rfl) ?_
      refine lv_if_eq (tgt := 20) C.1 C.2.1 dX11_bits_5 (by decide) (fun c190 => ?_) (fun c190 => ?_)
      · skip
        have c190 : j180.toInt = 0 := i_eqT (X := j180.toInt) (Y := 0) rfl rfl c190
        have bc190_j180 := i_bd j180
        refine lv_iload_n C.1 C.2.1 dX11_bits_20 rfl (lv_at hl 1 rfl) ?_
        exact x_retiQ hQ B hw ⟨j181, rfl, rfl⟩ (Nat.le_of_ble_eq_true rfl) (Nat.le_of_ble_eq_true rfl) dX11_bits_21
      · skip
        have c190 : j180.toInt ≠ 0 := i_eqF (X := j180.toInt) (Y := 0) rfl rfl c190
        have bc190_j180 := i_bd j180
        obtain ⟨v191, ev191⟩ : ∃ z : Int32, j181 + 1 = z := ⟨_, rfl⟩
        refine lv_iinc (v := v191) (lv' := [(1, .int v191), (2, .int j180)]) C.1 C.2.1 dX11_bits_8 hl (k := 1) rfl ev191 (by decide) rfl (fun ls hl => ?_)
        refine lv_iload_n C.1 C.2.1 dX11_bits_11 rfl (lv_at hl 1 rfl) ?_
        refine lv_iload_n C.1 C.2.1 dX11_bits_12 rfl (lv_at hl 1 rfl) ?_
        refine lv_iconst (v := 1) C.1 C.2.1 dX11_bits_13 (by decide) ?_
        refine lv_isub C.1 C.2.1 dX11_bits_14 (x_genP (fun z : Int32 => z = j180 - 1) rfl (fun v192 hv192 => ?_))
        refine lv_iand C.1 C.2.1 dX11_bits_15 (x_genP (fun z : Int32 => z.toUInt32.toNat < j180.toUInt32.toNat) (by rw [hv192]; exact i_clr (by omega)) (fun v193 hv193 => ?_))
        refine lv_istore_n (lv' := [(2, .int v193), (1, .int v191)]) C.1 C.2.1 dX11_bits_16 rfl hl (by decide) rfl (fun ls hl => ?_)
        refine lv_goto (tgt := 4) C.1 C.2.1 dX11_bits_17 (by decide) ?_
        exact ihJ182 v193 v191 (by omega)  _ _ _ hw (lv_sub hl [0, 1] rfl)
  exact loopJ182 _ a1 0 (Nat.lt_succ_self _)  _ _ _ hw (lv_sub hl [0, 1] rfl)
theorem dX11_least_0 : decode cX11_least 0 = .ok (.iload_n 0, 1) := by decide +kernel
theorem dX11_least_1 : decode cX11_least 1 = .ok (.iload_n 1, 1) := by decide +kernel
theorem dX11_least_2 : decode cX11_least 2 = .ok (.if_icmp .ge 7, 3) := by decide +kernel
theorem dX11_least_9 : decode cX11_least 9 = .ok (.iload_n 1, 1) := by decide +kernel
theorem dX11_least_10 : decode cX11_least 10 = .ok (.ireturn, 1) := by decide +kernel
theorem dX11_least_5 : decode cX11_least 5 = .ok (.iload_n 0, 1) := by decide +kernel
theorem dX11_least_6 : decode cX11_least 6 = .ok (.goto 4, 3) := by decide +kernel
set_option maxHeartbeats 4000000 in
set_option maxRecDepth 100000 in
theorem s_X11_least {l : Launch} {G : Gc} (a1 : Int32) (a2 : Int32)  : Ci l yX11_least cX11_least 2 (some .int) 0 0 0 G [.int a1, .int a2] [] (fun (r9 : Int32) (u9 : va_W) => ∃ (r_x : Int32), r9 = r_x ∧ u9 = []) := by
  refine Ci.ofQ (by decide) (Nat.le_of_ble_eq_true rfl) ?_
  intro p e s m below meth c ls A args Q hQ B hw hl
  have C : CallFix p m c cX11_least 2 s args gw "LanternStateModel" := B.1
  have hl : lv_has ls 2 [(0, .int a1), (1, .int a2)] := hl
  refine lv_iload_n C.1 C.2.1 dX11_least_0 rfl (lv_at hl 0 rfl) ?_
  refine lv_iload_n C.1 C.2.1 dX11_least_1 rfl (lv_at hl 1 rfl) ?_
  refine lv_icmp_ge (tgt := 9) C.1 C.2.1 dX11_least_2 (by decide) (fun c1 => ?_) (fun c1 => ?_)
  · skip
    have c1 : a2.toInt ≤ a1.toInt := i_leT (X := a2.toInt) (Y := a1.toInt) rfl rfl c1
    have bc1_a1 := i_bd a1
    have bc1_a2 := i_bd a2
    refine lv_iload_n C.1 C.2.1 dX11_least_9 rfl (lv_at hl 1 rfl) ?_
    exact x_retiQ hQ B hw ⟨a2, rfl, rfl⟩ (Nat.le_of_ble_eq_true rfl) (Nat.le_of_ble_eq_true rfl) dX11_least_10
  · skip
    have c1 : a1.toInt < a2.toInt := i_leF (X := a2.toInt) (Y := a1.toInt) rfl rfl c1
    have bc1_a1 := i_bd a1
    have bc1_a2 := i_bd a2
    refine lv_iload_n C.1 C.2.1 dX11_least_5 rfl (lv_at hl 0 rfl) ?_
    refine lv_goto (tgt := 10) C.1 C.2.1 dX11_least_6 (by decide) ?_
    exact x_retiQ hQ B hw ⟨a1, rfl, rfl⟩ (Nat.le_of_ble_eq_true rfl) (Nat.le_of_ble_eq_true rfl) dX11_least_10
theorem dX11_size_0 : decode cX11_size 0 = .ok (.iload_n 0, 1) := by decide +kernel
theorem dX11_size_1 : decode cX11_size 1 = .ok (.ifCond .ge 8, 3) := by decide +kernel
theorem dX11_size_9 : decode cX11_size 9 = .ok (.iload_n 0, 1) := by decide +kernel
theorem dX11_size_10 : decode cX11_size 10 = .ok (.ireturn, 1) := by decide +kernel
theorem dX11_size_4 : decode cX11_size 4 = .ok (.iload_n 0, 1) := by decide +kernel
theorem dX11_size_5 : decode cX11_size 5 = .ok (.ineg, 1) := by decide +kernel
theorem dX11_size_6 : decode cX11_size 6 = .ok (.goto 4, 3) := by decide +kernel
set_option maxHeartbeats 4000000 in
set_option maxRecDepth 100000 in
theorem s_X11_size {l : Launch} {G : Gc} (a1 : Int32)  : Ci l yX11_size cX11_size 1 (some .int) 0 0 0 G [.int a1] [] (fun (r9 : Int32) (u9 : va_W) => ∃ (r_x : Int32), r9 = r_x ∧ u9 = []) := by
  refine Ci.ofQ (by decide) (Nat.le_of_ble_eq_true rfl) ?_
  intro p e s m below meth c ls A args Q hQ B hw hl
  have C : CallFix p m c cX11_size 1 s args gw "LanternStateModel" := B.1
  have hl : lv_has ls 1 [(0, .int a1)] := hl
  refine lv_iload_n C.1 C.2.1 dX11_size_0 rfl (lv_at hl 0 rfl) ?_
  refine lv_if_ge (tgt := 9) C.1 C.2.1 dX11_size_1 (by decide) (fun c1 => ?_) (fun c1 => ?_)
  · skip
    have c1 : 0 ≤ a1.toInt := i_leT (X := 0) (Y := a1.toInt) rfl rfl c1
    have bc1_a1 := i_bd a1
    refine lv_iload_n C.1 C.2.1 dX11_size_9 rfl (lv_at hl 0 rfl) ?_
    exact x_retiQ hQ B hw ⟨a1, rfl, rfl⟩ (Nat.le_of_ble_eq_true rfl) (Nat.le_of_ble_eq_true rfl) dX11_size_10
  · skip
    have c1 : a1.toInt < 0 := i_leF (X := 0) (Y := a1.toInt) rfl rfl c1
    have bc1_a1 := i_bd a1
    refine lv_iload_n C.1 C.2.1 dX11_size_4 rfl (lv_at hl 0 rfl) ?_
    refine lv_ineg C.1 C.2.1 dX11_size_5 (x_gen (fun v2 => ?_))
    refine lv_goto (tgt := 10) C.1 C.2.1 dX11_size_6 (by decide) ?_
    exact x_retiQ hQ B hw ⟨v2, rfl, rfl⟩ (Nat.le_of_ble_eq_true rfl) (Nat.le_of_ble_eq_true rfl) dX11_size_10
set_option maxHeartbeats 4000000 in
set_option maxRecDepth 100000 in
theorem s_X11_isDigit {l : Launch} {G : Gc} (a1 : Int32)  : Ci l yX11_isDigit cX11_isDigit 1 (some .boolean) 0 0 0 G [.int a1] [] (fun (r9 : Int32) (u9 : va_W) => (r9 = 0 ∧ u9 = []) ∨ (r9 = 1 ∧ u9 = [] ∧ (48 ≤ a1.toInt))) := by
  refine Ci.ofQ (by decide) (Nat.le_of_ble_eq_true rfl) ?_
  intro p e s m below meth c ls A args Q hQ B hw hl
  have C : CallFix p m c cX11_isDigit 1 s args gw "LanternStateModel" := B.1
  have hl : lv_has ls 1 [(0, .int a1)] := hl
  refine lv_iload_n C.1 C.2.1 dX11_isDigit_0 rfl (lv_at hl 0 rfl) ?_
  refine lv_bipush (v := 48) C.1 C.2.1 dX11_isDigit_1 (by decide) ?_
  refine lv_icmp_lt (tgt := 16) C.1 C.2.1 dX11_isDigit_3 (by decide) (fun c1 => ?_) (fun c1 => ?_)
  · skip
    have c1 : a1.toInt < 48 := i_ltT (X := a1.toInt) (Y := 48) rfl rfl c1
    have bc1_a1 := i_bd a1
    refine lv_iconst (v := 0) C.1 C.2.1 dX11_isDigit_16 (by decide) ?_
    exact x_retzQ hQ B hw rfl (Or.inl ⟨rfl, rfl⟩) (Nat.le_of_ble_eq_true rfl) (Nat.le_of_ble_eq_true rfl) dX11_isDigit_17
  · skip
    have c1 : 48 ≤ a1.toInt := i_ltF (X := a1.toInt) (Y := 48) rfl rfl c1
    have bc1_a1 := i_bd a1
    refine lv_iload_n C.1 C.2.1 dX11_isDigit_6 rfl (lv_at hl 0 rfl) ?_
    refine lv_bipush (v := 57) C.1 C.2.1 dX11_isDigit_7 (by decide) ?_
    refine lv_icmp_gt (tgt := 16) C.1 C.2.1 dX11_isDigit_9 (by decide) (fun c2 => ?_) (fun c2 => ?_)
    · skip
      have c2 : 57 < a1.toInt := i_ltT (X := 57) (Y := a1.toInt) rfl rfl c2
      have bc2_a1 := i_bd a1
      refine lv_iconst (v := 0) C.1 C.2.1 dX11_isDigit_16 (by decide) ?_
      exact x_retzQ hQ B hw rfl (Or.inl ⟨rfl, rfl⟩) (Nat.le_of_ble_eq_true rfl) (Nat.le_of_ble_eq_true rfl) dX11_isDigit_17
    · skip
      have c2 : a1.toInt ≤ 57 := i_ltF (X := 57) (Y := a1.toInt) rfl rfl c2
      have bc2_a1 := i_bd a1
      refine lv_iconst (v := 1) C.1 C.2.1 dX11_isDigit_12 (by decide) ?_
      refine lv_goto (tgt := 17) C.1 C.2.1 dX11_isDigit_13 (by decide) ?_
      exact x_retzQ hQ B hw rfl (Or.inr ⟨rfl, rfl, (by omega)⟩) (Nat.le_of_ble_eq_true rfl) (Nat.le_of_ble_eq_true rfl) dX11_isDigit_17
set_option maxHeartbeats 4000000 in
set_option maxRecDepth 100000 in
theorem s_X11_isLetter {l : Launch} {G : Gc} (a1 : Int32)  : Ci l yX11_isLetter cX11_isLetter 1 (some .boolean) 0 0 0 G [.int a1] [] (fun (r9 : Int32) (u9 : va_W) => (r9 = 0 ∧ u9 = []) ∨ (r9 = 1 ∧ u9 = [] ∧ (97 ≤ a1.toInt))) := by
  refine Ci.ofQ (by decide) (Nat.le_of_ble_eq_true rfl) ?_
  intro p e s m below meth c ls A args Q hQ B hw hl
  have C : CallFix p m c cX11_isLetter 1 s args gw "LanternStateModel" := B.1
  have hl : lv_has ls 1 [(0, .int a1)] := hl
  refine lv_iload_n C.1 C.2.1 dX11_isLetter_0 rfl (lv_at hl 0 rfl) ?_
  refine lv_bipush (v := 97) C.1 C.2.1 dX11_isLetter_1 (by decide) ?_
  refine lv_icmp_lt (tgt := 16) C.1 C.2.1 dX11_isLetter_3 (by decide) (fun c1 => ?_) (fun c1 => ?_)
  · skip
    have c1 : a1.toInt < 97 := i_ltT (X := a1.toInt) (Y := 97) rfl rfl c1
    have bc1_a1 := i_bd a1
    refine lv_iconst (v := 0) C.1 C.2.1 dX11_isLetter_16 (by decide) ?_
    exact x_retzQ hQ B hw rfl (Or.inl ⟨rfl, rfl⟩) (Nat.le_of_ble_eq_true rfl) (Nat.le_of_ble_eq_true rfl) dX11_isLetter_17
  · skip
    have c1 : 97 ≤ a1.toInt := i_ltF (X := a1.toInt) (Y := 97) rfl rfl c1
    have bc1_a1 := i_bd a1
    refine lv_iload_n C.1 C.2.1 dX11_isLetter_6 rfl (lv_at hl 0 rfl) ?_
    refine lv_bipush (v := 122) C.1 C.2.1 dX11_isLetter_7 (by decide) ?_
    refine lv_icmp_gt (tgt := 16) C.1 C.2.1 dX11_isLetter_9 (by decide) (fun c2 => ?_) (fun c2 => ?_)
    · skip
      have c2 : 122 < a1.toInt := i_ltT (X := 122) (Y := a1.toInt) rfl rfl c2
      have bc2_a1 := i_bd a1
      refine lv_iconst (v := 0) C.1 C.2.1 dX11_isLetter_16 (by decide) ?_
      exact x_retzQ hQ B hw rfl (Or.inl ⟨rfl, rfl⟩) (Nat.le_of_ble_eq_true rfl) (Nat.le_of_ble_eq_true rfl) dX11_isLetter_17
    · skip
      have c2 : a1.toInt ≤ 122 := i_ltF (X := 122) (Y := a1.toInt) rfl rfl c2
      have bc2_a1 := i_bd a1
      refine lv_iconst (v := 1) C.1 C.2.1 dX11_isLetter_12 (by decide) ?_
      refine lv_goto (tgt := 17) C.1 C.2.1 dX11_isLetter_13 (by decide) ?_
      exact x_retzQ hQ B hw rfl (Or.inr ⟨rfl, rfl, (by omega)⟩) (Nat.le_of_ble_eq_true rfl) (Nat.le_of_ble_eq_true rfl) dX11_isLetter_17
set_option maxHeartbeats 4000000 in
set_option maxRecDepth 100000 in
theorem s_X11_spelt {l : Launch} {G : Gc} (a1 : Int32) (a2 : Int32) (a3 : Int32) (a4 : Int32) (a5 : Int32) (a6 : Int32) (a7 : Int32)  : Cl l yX11_spelt cX11_spelt 9 0 0 0 G [.int a1, .int a2, .int a3, .int a4, .int a5, .int a6, .int a7] [] (fun (r9 : Int64) (u9 : va_W) => ∃ (r_x : Int64), r9 = r_x ∧ u9 = []) := by
  refine Cl.ofQ (by decide) (Nat.le_of_ble_eq_true rfl) ?_
  intro p e s m below meth c ls A args Q hQ B hw hl
  have C : CallFix p m c cX11_spelt 9 s args gw "LanternStateModel" := B.1
  have hl : lv_has ls 9 [(0, .int a1), (1, .int a2), (2, .int a3), (3, .int a4), (4, .int a5), (5, .int a6), (6, .int a7)] := hl
  refine lv_ldc2 (v := 27) C.1 C.2.1 C.2.2.2.1 (C.2.2.2.2 _ kw1353) dX11_spelt_0 ?_
  refine lv_iload_n C.1 C.2.1 dX11_spelt_3 rfl (lv_at hl 0 rfl) ?_
  refine lv_i2l (v := a1.toInt64) C.1 C.2.1 dX11_spelt_4 rfl (x_genl (fun v1 => ?_))
  refine lv_ldc2 (v := 96) C.1 C.2.1 C.2.2.2.1 (C.2.2.2.2 _ kw1354) dX11_spelt_5 ?_
  refine lv_lsub C.1 C.2.1 dX11_spelt_8 (x_genl (fun v2 => ?_))
  refine lv_lmul C.1 C.2.1 dX11_spelt_9 (x_genl (fun v3 => ?_))
  refine lv_iload_n C.1 C.2.1 dX11_spelt_10 rfl (lv_at hl 1 rfl) ?_
  refine lv_i2l (v := a2.toInt64) C.1 C.2.1 dX11_spelt_11 rfl (x_genl (fun v4 => ?_))
  refine lv_ladd C.1 C.2.1 dX11_spelt_12 (x_genl (fun v5 => ?_))
  refine lv_ldc2 (v := 96) C.1 C.2.1 C.2.2.2.1 (C.2.2.2.2 _ kw1354) dX11_spelt_13 ?_
  refine lv_lsub C.1 C.2.1 dX11_spelt_16 (x_genl (fun v6 => ?_))
  refine lv_lstore (lv' := [(7, .long v6), (0, .int a1), (1, .int a2), (2, .int a3), (3, .int a4), (4, .int a5), (5, .int a6), (6, .int a7)]) C.1 C.2.1 dX11_spelt_17 hl (by decide) rfl (fun ls hl => ?_)
  refine lv_iload_n C.1 C.2.1 dX11_spelt_19 rfl (lv_at hl 3 rfl) ?_
  have J13 : ∀ (j12 : Int64), ∀ (H : Heap) (locs : List Loc) (ls : Array Slot), Wd G s A [] H locs → lv_has ls 9 [(7, .long j12), (3, .int a4), (4, .int a5), (5, .int a6), (6, .int a7)] → W p l e (rmD 0 0 0) s m args below meth c H locs 0 0 Q (F0 m 38 ls []) := by
    intro j12  H locs ls hw hl
    refine lv_iload_n C.1 C.2.1 dX11_spelt_38 rfl (lv_at hl 1 rfl) ?_
    have J46 : ∀ (j45 : Int64), ∀ (H : Heap) (locs : List Loc) (ls : Array Slot), Wd G s A [] H locs → lv_has ls 9 [(7, .long j45), (4, .int a5), (5, .int a6), (6, .int a7)] → W p l e (rmD 0 0 0) s m args below meth c H locs 0 0 Q (F0 m 57 ls []) := by
      intro j45  H locs ls hw hl
      refine lv_iload C.1 C.2.1 dX11_spelt_57 (lv_at hl 1 rfl) ?_
      have J72 : ∀ (j71 : Int64), ∀ (H : Heap) (locs : List Loc) (ls : Array Slot), Wd G s A [] H locs → lv_has ls 9 [(7, .long j71), (5, .int a6), (6, .int a7)] → W p l e (rmD 0 0 0) s m args below meth c H locs 0 0 Q (F0 m 78 ls []) := by
        intro j71  H locs ls hw hl
        refine lv_iload C.1 C.2.1 dX11_spelt_78 (lv_at hl 1 rfl) ?_
        have J91 : ∀ (j90 : Int64), ∀ (H : Heap) (locs : List Loc) (ls : Array Slot), Wd G s A [] H locs → lv_has ls 9 [(7, .long j90), (6, .int a7)] → W p l e (rmD 0 0 0) s m args below meth c H locs 0 0 Q (F0 m 99 ls []) := by
          intro j90  H locs ls hw hl
          refine lv_iload C.1 C.2.1 dX11_spelt_99 (lv_at hl 1 rfl) ?_
          refine lv_if_le (tgt := 120) C.1 C.2.1 dX11_spelt_101 (by decide) (fun c97 => ?_) (fun c97 => ?_)
          · skip
            have c97 : a7.toInt ≤ 0 := i_leT (X := a7.toInt) (Y := 0) rfl rfl c97
            have bc97_a7 := i_bd a7
            refine lv_lload C.1 C.2.1 dX11_spelt_120 (lv_at hl 0 rfl) ?_
            exact x_retlQ hQ B hw ⟨j90, rfl, rfl⟩ (Nat.le_of_ble_eq_true rfl) (Nat.le_of_ble_eq_true rfl) dX11_spelt_122
          · skip
            have c97 : 0 < a7.toInt := i_leF (X := a7.toInt) (Y := 0) rfl rfl c97
            have bc97_a7 := i_bd a7
            refine lv_ldc2 (v := 27) C.1 C.2.1 C.2.2.2.1 (C.2.2.2.2 _ kw1353) dX11_spelt_104 ?_
            refine lv_lload C.1 C.2.1 dX11_spelt_107 (lv_at hl 0 rfl) ?_
            refine lv_lmul C.1 C.2.1 dX11_spelt_109 (x_genl (fun v98 => ?_))
            refine lv_iload C.1 C.2.1 dX11_spelt_110 (lv_at hl 1 rfl) ?_
            refine lv_i2l (v := a7.toInt64) C.1 C.2.1 dX11_spelt_112 rfl (x_genl (fun v99 => ?_))
            refine lv_ladd C.1 C.2.1 dX11_spelt_113 (x_genl (fun v100 => ?_))
            refine lv_ldc2 (v := 96) C.1 C.2.1 C.2.2.2.1 (C.2.2.2.2 _ kw1354) dX11_spelt_114 ?_
            refine lv_lsub C.1 C.2.1 dX11_spelt_117 (x_genl (fun v101 => ?_))
            refine lv_lstore (lv' := [(7, .long v101), (6, .int a7)]) C.1 C.2.1 dX11_spelt_118 hl (by decide) rfl (fun ls hl => ?_)
            refine lv_lload C.1 C.2.1 dX11_spelt_120 (lv_at hl 0 rfl) ?_
            exact x_retlQ hQ B hw ⟨v101, rfl, rfl⟩ (Nat.le_of_ble_eq_true rfl) (Nat.le_of_ble_eq_true rfl) dX11_spelt_122
        refine lv_if_le (tgt := 99) C.1 C.2.1 dX11_spelt_80 (by decide) (fun c85 => ?_) (fun c85 => ?_)
        · skip
          have c85 : a6.toInt ≤ 0 := i_leT (X := a6.toInt) (Y := 0) rfl rfl c85
          have bc85_a6 := i_bd a6
          exact J91 j71   _ _ _ hw (lv_sub hl [0, 2] rfl)
        · skip
          have c85 : 0 < a6.toInt := i_leF (X := a6.toInt) (Y := 0) rfl rfl c85
          have bc85_a6 := i_bd a6
          refine lv_ldc2 (v := 27) C.1 C.2.1 C.2.2.2.1 (C.2.2.2.2 _ kw1353) dX11_spelt_83 ?_
          refine lv_lload C.1 C.2.1 dX11_spelt_86 (lv_at hl 0 rfl) ?_
          refine lv_lmul C.1 C.2.1 dX11_spelt_88 (x_genl (fun v102 => ?_))
          refine lv_iload C.1 C.2.1 dX11_spelt_89 (lv_at hl 1 rfl) ?_
          refine lv_i2l (v := a6.toInt64) C.1 C.2.1 dX11_spelt_91 rfl (x_genl (fun v103 => ?_))
          refine lv_ladd C.1 C.2.1 dX11_spelt_92 (x_genl (fun v104 => ?_))
          refine lv_ldc2 (v := 96) C.1 C.2.1 C.2.2.2.1 (C.2.2.2.2 _ kw1354) dX11_spelt_93 ?_
          refine lv_lsub C.1 C.2.1 dX11_spelt_96 (x_genl (fun v105 => ?_))
          refine lv_lstore (lv' := [(7, .long v105), (5, .int a6), (6, .int a7)]) C.1 C.2.1 dX11_spelt_97 hl (by decide) rfl (fun ls hl => ?_)
          exact J91 v105   _ _ _ hw (lv_sub hl [0, 2] rfl)
      refine lv_if_le (tgt := 78) C.1 C.2.1 dX11_spelt_59 (by decide) (fun c66 => ?_) (fun c66 => ?_)
      · skip
        have c66 : a5.toInt ≤ 0 := i_leT (X := a5.toInt) (Y := 0) rfl rfl c66
        have bc66_a5 := i_bd a5
        exact J72 j45   _ _ _ hw (lv_sub hl [0, 2, 3] rfl)
      · skip
        have c66 : 0 < a5.toInt := i_leF (X := a5.toInt) (Y := 0) rfl rfl c66
        have bc66_a5 := i_bd a5
        refine lv_ldc2 (v := 27) C.1 C.2.1 C.2.2.2.1 (C.2.2.2.2 _ kw1353) dX11_spelt_62 ?_
        refine lv_lload C.1 C.2.1 dX11_spelt_65 (lv_at hl 0 rfl) ?_
        refine lv_lmul C.1 C.2.1 dX11_spelt_67 (x_genl (fun v106 => ?_))
        refine lv_iload C.1 C.2.1 dX11_spelt_68 (lv_at hl 1 rfl) ?_
        refine lv_i2l (v := a5.toInt64) C.1 C.2.1 dX11_spelt_70 rfl (x_genl (fun v107 => ?_))
        refine lv_ladd C.1 C.2.1 dX11_spelt_71 (x_genl (fun v108 => ?_))
        refine lv_ldc2 (v := 96) C.1 C.2.1 C.2.2.2.1 (C.2.2.2.2 _ kw1354) dX11_spelt_72 ?_
        refine lv_lsub C.1 C.2.1 dX11_spelt_75 (x_genl (fun v109 => ?_))
        refine lv_lstore (lv' := [(7, .long v109), (4, .int a5), (5, .int a6), (6, .int a7)]) C.1 C.2.1 dX11_spelt_76 hl (by decide) rfl (fun ls hl => ?_)
        exact J72 v109   _ _ _ hw (lv_sub hl [0, 2, 3] rfl)
    refine lv_if_le (tgt := 57) C.1 C.2.1 dX11_spelt_39 (by decide) (fun c40 => ?_) (fun c40 => ?_)
    · skip
      have c40 : a4.toInt ≤ 0 := i_leT (X := a4.toInt) (Y := 0) rfl rfl c40
      have bc40_a4 := i_bd a4
      exact J46 j12   _ _ _ hw (lv_sub hl [0, 2, 3, 4] rfl)
    · skip
      have c40 : 0 < a4.toInt := i_leF (X := a4.toInt) (Y := 0) rfl rfl c40
      have bc40_a4 := i_bd a4
      refine lv_ldc2 (v := 27) C.1 C.2.1 C.2.2.2.1 (C.2.2.2.2 _ kw1353) dX11_spelt_42 ?_
      refine lv_lload C.1 C.2.1 dX11_spelt_45 (lv_at hl 0 rfl) ?_
      refine lv_lmul C.1 C.2.1 dX11_spelt_47 (x_genl (fun v110 => ?_))
      refine lv_iload_n C.1 C.2.1 dX11_spelt_48 rfl (lv_at hl 1 rfl) ?_
      refine lv_i2l (v := a4.toInt64) C.1 C.2.1 dX11_spelt_49 rfl (x_genl (fun v111 => ?_))
      refine lv_ladd C.1 C.2.1 dX11_spelt_50 (x_genl (fun v112 => ?_))
      refine lv_ldc2 (v := 96) C.1 C.2.1 C.2.2.2.1 (C.2.2.2.2 _ kw1354) dX11_spelt_51 ?_
      refine lv_lsub C.1 C.2.1 dX11_spelt_54 (x_genl (fun v113 => ?_))
      refine lv_lstore (lv' := [(7, .long v113), (3, .int a4), (4, .int a5), (5, .int a6), (6, .int a7)]) C.1 C.2.1 dX11_spelt_55 hl (by decide) rfl (fun ls hl => ?_)
      exact J46 v113   _ _ _ hw (lv_sub hl [0, 2, 3, 4] rfl)
  refine lv_if_le (tgt := 38) C.1 C.2.1 dX11_spelt_20 (by decide) (fun c7 => ?_) (fun c7 => ?_)
  · skip
    have c7 : a3.toInt ≤ 0 := i_leT (X := a3.toInt) (Y := 0) rfl rfl c7
    have bc7_a3 := i_bd a3
    exact J13 v6   _ _ _ hw (lv_sub hl [0, 4, 5, 6, 7] rfl)
  · skip
    have c7 : 0 < a3.toInt := i_leF (X := a3.toInt) (Y := 0) rfl rfl c7
    have bc7_a3 := i_bd a3
    refine lv_ldc2 (v := 27) C.1 C.2.1 C.2.2.2.1 (C.2.2.2.2 _ kw1353) dX11_spelt_23 ?_
    refine lv_lload C.1 C.2.1 dX11_spelt_26 (lv_at hl 0 rfl) ?_
    refine lv_lmul C.1 C.2.1 dX11_spelt_28 (x_genl (fun v114 => ?_))
    refine lv_iload_n C.1 C.2.1 dX11_spelt_29 rfl (lv_at hl 3 rfl) ?_
    refine lv_i2l (v := a3.toInt64) C.1 C.2.1 dX11_spelt_30 rfl (x_genl (fun v115 => ?_))
    refine lv_ladd C.1 C.2.1 dX11_spelt_31 (x_genl (fun v116 => ?_))
    refine lv_ldc2 (v := 96) C.1 C.2.1 C.2.2.2.1 (C.2.2.2.2 _ kw1354) dX11_spelt_32 ?_
    refine lv_lsub C.1 C.2.1 dX11_spelt_35 (x_genl (fun v117 => ?_))
    refine lv_lstore (lv' := [(7, .long v117), (0, .int a1), (1, .int a2), (2, .int a3), (3, .int a4), (4, .int a5), (5, .int a6), (6, .int a7)]) C.1 C.2.1 dX11_spelt_36 hl (by decide) rfl (fun ls hl => ?_)
    exact J13 v117   _ _ _ hw (lv_sub hl [0, 4, 5, 6, 7] rfl)
set_option maxHeartbeats 4000000 in
set_option maxRecDepth 100000 in
theorem s_X11_wordOf {l : Launch} {G : Gc} (a1 : Int32)  : Cl l yX11_wordOf cX11_wordOf 1 1 0 0 G [.int a1] [] (fun (r9 : Int64) (u9 : va_W) => ∃ (r_x : Int64), r9 = r_x ∧ u9 = []) := by
  refine Cl.ofQ (by decide) (Nat.le_of_ble_eq_true rfl) ?_
  intro p e s m below meth c ls A args Q hQ B hw hl
  have C : CallFix p m c cX11_wordOf 1 s args gw "LanternStateModel" := B.1
  have hl : lv_has ls 1 [(0, .int a1)] := hl
  refine lv_iload_n C.1 C.2.1 dX11_wordOf_0 rfl (lv_at hl 0 rfl) ?_
  have k1 : a1.toInt = 0 ∨ a1.toInt = 1 ∨ a1.toInt = 2 ∨ a1.toInt = 3 ∨ a1.toInt = 4 ∨ a1.toInt = 5 ∨ a1.toInt = 6 ∨ a1.toInt = 7 ∨ a1.toInt = 8 ∨ a1.toInt = 9 ∨ a1.toInt = 10 ∨ a1.toInt = 11 ∨ a1.toInt = 12 ∨ a1.toInt = 13 ∨ a1.toInt = 14 ∨ a1.toInt = 15 ∨ a1.toInt = 16 ∨ a1.toInt = 17 ∨ a1.toInt = 18 ∨ a1.toInt = 19 ∨ a1.toInt = 20 ∨ a1.toInt = 21 ∨ a1.toInt = 22 ∨ a1.toInt = 23 ∨ a1.toInt = 24 ∨ a1.toInt = 25 ∨ (a1.toInt ≠ 0 ∧ a1.toInt ≠ 1 ∧ a1.toInt ≠ 2 ∧ a1.toInt ≠ 3 ∧ a1.toInt ≠ 4 ∧ a1.toInt ≠ 5 ∧ a1.toInt ≠ 6 ∧ a1.toInt ≠ 7 ∧ a1.toInt ≠ 8 ∧ a1.toInt ≠ 9 ∧ a1.toInt ≠ 10 ∧ a1.toInt ≠ 11 ∧ a1.toInt ≠ 12 ∧ a1.toInt ≠ 13 ∧ a1.toInt ≠ 14 ∧ a1.toInt ≠ 15 ∧ a1.toInt ≠ 16 ∧ a1.toInt ≠ 17 ∧ a1.toInt ≠ 18 ∧ a1.toInt ≠ 19 ∧ a1.toInt ≠ 20 ∧ a1.toInt ≠ 21 ∧ a1.toInt ≠ 22 ∧ a1.toInt ≠ 23 ∧ a1.toInt ≠ 24 ∧ a1.toInt ≠ 25) := by omega
  rcases k1 with k1 | k1 | k1 | k1 | k1 | k1 | k1 | k1 | k1 | k1 | k1 | k1 | k1 | k1 | k1 | k1 | k1 | k1 | k1 | k1 | k1 | k1 | k1 | k1 | k1 | k1 | k1
  · skip
    have k1 : a1 = 0 := Int32.toInt_inj.mp (by rw [k1]; rfl)
    refine x_topi (z := 0) k1 ?_
    refine lv_tableIn (off := 119) (tgt := 120) C.1 C.2.1 dX11_wordOf_1 (by decide) (by decide) rfl (by decide) ?_
    have ha1_ := congrArg Int32.toInt k1
    have ha1_ : a1.toInt = 0 := ha1_
    refine lv_bipush (v := 115) C.1 C.2.1 dX11_wordOf_120 (by decide) ?_
    refine lv_bipush (v := 108) C.1 C.2.1 dX11_wordOf_122 (by decide) ?_
    refine lv_bipush (v := 105) C.1 C.2.1 dX11_wordOf_124 (by decide) ?_
    refine lv_bipush (v := 100) C.1 C.2.1 dX11_wordOf_126 (by decide) ?_
    refine lv_bipush (v := 101) C.1 C.2.1 dX11_wordOf_128 (by decide) ?_
    refine lv_iconst (v := 0) C.1 C.2.1 dX11_wordOf_130 (by decide) ?_
    refine lv_iconst (v := 0) C.1 C.2.1 dX11_wordOf_131 (by decide) ?_
    refine x_calllS (As := [.int 115, .int 108, .int 105, .int 100, .int 101, .int 0, .int 0]) (rest := []) (wr := []) C hw (s_X11_spelt 115 108 105 100 101 0 0) mwX11_spelt kw1366 [] [] rfl rfl rfl rfl (by decide) rfl hl.1 rfl (Nat.le_of_ble_eq_true rfl) ⟨(Nat.le_of_ble_eq_true rfl), (Nat.le_of_ble_eq_true rfl)⟩ ⟨(Nat.le_of_ble_eq_true rfl), (Nat.le_of_ble_eq_true rfl)⟩ dX11_wordOf_132 (fun r2 u9 H locs hp9 hw => ?_)
    obtain ⟨x3, rfl, rfl⟩ := hp9
    have hw : Wd G s A [] H _ := hw
    exact x_retlQ hQ B hw ⟨r2, rfl, rfl⟩ (Nat.le_of_ble_eq_true rfl) (Nat.le_of_ble_eq_true rfl) dX11_wordOf_135
  · skip
    have k1 : a1 = 1 := Int32.toInt_inj.mp (by rw [k1]; rfl)
    refine x_topi (z := 1) k1 ?_
    refine lv_tableIn (off := 135) (tgt := 136) C.1 C.2.1 dX11_wordOf_1 (by decide) (by decide) rfl (by decide) ?_
    have ha1_ := congrArg Int32.toInt k1
    have ha1_ : a1.toInt = 1 := ha1_
    refine lv_bipush (v := 104) C.1 C.2.1 dX11_wordOf_136 (by decide) ?_
    refine lv_bipush (v := 101) C.1 C.2.1 dX11_wordOf_138 (by decide) ?_
    refine lv_bipush (v := 97) C.1 C.2.1 dX11_wordOf_140 (by decide) ?_
    refine lv_bipush (v := 114) C.1 C.2.1 dX11_wordOf_142 (by decide) ?_
    refine lv_bipush (v := 101) C.1 C.2.1 dX11_wordOf_144 (by decide) ?_
    refine lv_bipush (v := 114) C.1 C.2.1 dX11_wordOf_146 (by decide) ?_
    refine lv_iconst (v := 0) C.1 C.2.1 dX11_wordOf_148 (by decide) ?_
    refine x_calllS (As := [.int 104, .int 101, .int 97, .int 114, .int 101, .int 114, .int 0]) (rest := []) (wr := []) C hw (s_X11_spelt 104 101 97 114 101 114 0) mwX11_spelt kw1366 [] [] rfl rfl rfl rfl (by decide) rfl hl.1 rfl (Nat.le_of_ble_eq_true rfl) ⟨(Nat.le_of_ble_eq_true rfl), (Nat.le_of_ble_eq_true rfl)⟩ ⟨(Nat.le_of_ble_eq_true rfl), (Nat.le_of_ble_eq_true rfl)⟩ dX11_wordOf_149 (fun r4 u9 H locs hp9 hw => ?_)
    obtain ⟨x5, rfl, rfl⟩ := hp9
    have hw : Wd G s A [] H _ := hw
    exact x_retlQ hQ B hw ⟨r4, rfl, rfl⟩ (Nat.le_of_ble_eq_true rfl) (Nat.le_of_ble_eq_true rfl) dX11_wordOf_152
  · skip
    have k1 : a1 = 2 := Int32.toInt_inj.mp (by rw [k1]; rfl)
    refine x_topi (z := 2) k1 ?_
    refine lv_tableIn (off := 152) (tgt := 153) C.1 C.2.1 dX11_wordOf_1 (by decide) (by decide) rfl (by decide) ?_
    have ha1_ := congrArg Int32.toInt k1
    have ha1_ : a1.toInt = 2 := ha1_
    refine lv_bipush (v := 102) C.1 C.2.1 dX11_wordOf_153 (by decide) ?_
    refine lv_bipush (v := 114) C.1 C.2.1 dX11_wordOf_155 (by decide) ?_
    refine lv_bipush (v := 111) C.1 C.2.1 dX11_wordOf_157 (by decide) ?_
    refine lv_bipush (v := 110) C.1 C.2.1 dX11_wordOf_159 (by decide) ?_
    refine lv_bipush (v := 116) C.1 C.2.1 dX11_wordOf_161 (by decide) ?_
    refine lv_iconst (v := 0) C.1 C.2.1 dX11_wordOf_163 (by decide) ?_
    refine lv_iconst (v := 0) C.1 C.2.1 dX11_wordOf_164 (by decide) ?_
    refine x_calllS (As := [.int 102, .int 114, .int 111, .int 110, .int 116, .int 0, .int 0]) (rest := []) (wr := []) C hw (s_X11_spelt 102 114 111 110 116 0 0) mwX11_spelt kw1366 [] [] rfl rfl rfl rfl (by decide) rfl hl.1 rfl (Nat.le_of_ble_eq_true rfl) ⟨(Nat.le_of_ble_eq_true rfl), (Nat.le_of_ble_eq_true rfl)⟩ ⟨(Nat.le_of_ble_eq_true rfl), (Nat.le_of_ble_eq_true rfl)⟩ dX11_wordOf_165 (fun r6 u9 H locs hp9 hw => ?_)
    obtain ⟨x7, rfl, rfl⟩ := hp9
    have hw : Wd G s A [] H _ := hw
    exact x_retlQ hQ B hw ⟨r6, rfl, rfl⟩ (Nat.le_of_ble_eq_true rfl) (Nat.le_of_ble_eq_true rfl) dX11_wordOf_168
  · skip
    have k1 : a1 = 3 := Int32.toInt_inj.mp (by rw [k1]; rfl)
    refine x_topi (z := 3) k1 ?_
    refine lv_tableIn (off := 168) (tgt := 169) C.1 C.2.1 dX11_wordOf_1 (by decide) (by decide) rfl (by decide) ?_
    have ha1_ := congrArg Int32.toInt k1
    have ha1_ : a1.toInt = 3 := ha1_
    refine lv_bipush (v := 98) C.1 C.2.1 dX11_wordOf_169 (by decide) ?_
    refine lv_bipush (v := 101) C.1 C.2.1 dX11_wordOf_171 (by decide) ?_
    refine lv_bipush (v := 104) C.1 C.2.1 dX11_wordOf_173 (by decide) ?_
    refine lv_bipush (v := 105) C.1 C.2.1 dX11_wordOf_175 (by decide) ?_
    refine lv_bipush (v := 110) C.1 C.2.1 dX11_wordOf_177 (by decide) ?_
    refine lv_bipush (v := 100) C.1 C.2.1 dX11_wordOf_179 (by decide) ?_
    refine lv_iconst (v := 0) C.1 C.2.1 dX11_wordOf_181 (by decide) ?_
    refine x_calllS (As := [.int 98, .int 101, .int 104, .int 105, .int 110, .int 100, .int 0]) (rest := []) (wr := []) C hw (s_X11_spelt 98 101 104 105 110 100 0) mwX11_spelt kw1366 [] [] rfl rfl rfl rfl (by decide) rfl hl.1 rfl (Nat.le_of_ble_eq_true rfl) ⟨(Nat.le_of_ble_eq_true rfl), (Nat.le_of_ble_eq_true rfl)⟩ ⟨(Nat.le_of_ble_eq_true rfl), (Nat.le_of_ble_eq_true rfl)⟩ dX11_wordOf_182 (fun r8 u9 H locs hp9 hw => ?_)
    obtain ⟨x9, rfl, rfl⟩ := hp9
    have hw : Wd G s A [] H _ := hw
    exact x_retlQ hQ B hw ⟨r8, rfl, rfl⟩ (Nat.le_of_ble_eq_true rfl) (Nat.le_of_ble_eq_true rfl) dX11_wordOf_185
  · skip
    have k1 : a1 = 4 := Int32.toInt_inj.mp (by rw [k1]; rfl)
    refine x_topi (z := 4) k1 ?_
    refine lv_tableIn (off := 185) (tgt := 186) C.1 C.2.1 dX11_wordOf_1 (by decide) (by decide) rfl (by decide) ?_
    have ha1_ := congrArg Int32.toInt k1
    have ha1_ : a1.toInt = 4 := ha1_
    refine lv_bipush (v := 108) C.1 C.2.1 dX11_wordOf_186 (by decide) ?_
    refine lv_bipush (v := 105) C.1 C.2.1 dX11_wordOf_188 (by decide) ?_
    refine lv_bipush (v := 107) C.1 C.2.1 dX11_wordOf_190 (by decide) ?_
    refine lv_bipush (v := 101) C.1 C.2.1 dX11_wordOf_192 (by decide) ?_
    refine lv_bipush (v := 115) C.1 C.2.1 dX11_wordOf_194 (by decide) ?_
    refine lv_iconst (v := 0) C.1 C.2.1 dX11_wordOf_196 (by decide) ?_
    refine lv_iconst (v := 0) C.1 C.2.1 dX11_wordOf_197 (by decide) ?_
    refine x_calllS (As := [.int 108, .int 105, .int 107, .int 101, .int 115, .int 0, .int 0]) (rest := []) (wr := []) C hw (s_X11_spelt 108 105 107 101 115 0 0) mwX11_spelt kw1366 [] [] rfl rfl rfl rfl (by decide) rfl hl.1 rfl (Nat.le_of_ble_eq_true rfl) ⟨(Nat.le_of_ble_eq_true rfl), (Nat.le_of_ble_eq_true rfl)⟩ ⟨(Nat.le_of_ble_eq_true rfl), (Nat.le_of_ble_eq_true rfl)⟩ dX11_wordOf_198 (fun r10 u9 H locs hp9 hw => ?_)
    obtain ⟨x11, rfl, rfl⟩ := hp9
    have hw : Wd G s A [] H _ := hw
    exact x_retlQ hQ B hw ⟨r10, rfl, rfl⟩ (Nat.le_of_ble_eq_true rfl) (Nat.le_of_ble_eq_true rfl) dX11_wordOf_201
  · skip
    have k1 : a1 = 5 := Int32.toInt_inj.mp (by rw [k1]; rfl)
    refine x_topi (z := 5) k1 ?_
    refine lv_tableIn (off := 201) (tgt := 202) C.1 C.2.1 dX11_wordOf_1 (by decide) (by decide) rfl (by decide) ?_
    have ha1_ := congrArg Int32.toInt k1
    have ha1_ : a1.toInt = 5 := ha1_
    refine lv_bipush (v := 104) C.1 C.2.1 dX11_wordOf_202 (by decide) ?_
    refine lv_bipush (v := 97) C.1 C.2.1 dX11_wordOf_204 (by decide) ?_
    refine lv_bipush (v := 116) C.1 C.2.1 dX11_wordOf_206 (by decide) ?_
    refine lv_bipush (v := 101) C.1 C.2.1 dX11_wordOf_208 (by decide) ?_
    refine lv_bipush (v := 115) C.1 C.2.1 dX11_wordOf_210 (by decide) ?_
    refine lv_iconst (v := 0) C.1 C.2.1 dX11_wordOf_212 (by decide) ?_
    refine lv_iconst (v := 0) C.1 C.2.1 dX11_wordOf_213 (by decide) ?_
    refine x_calllS (As := [.int 104, .int 97, .int 116, .int 101, .int 115, .int 0, .int 0]) (rest := []) (wr := []) C hw (s_X11_spelt 104 97 116 101 115 0 0) mwX11_spelt kw1366 [] [] rfl rfl rfl rfl (by decide) rfl hl.1 rfl (Nat.le_of_ble_eq_true rfl) ⟨(Nat.le_of_ble_eq_true rfl), (Nat.le_of_ble_eq_true rfl)⟩ ⟨(Nat.le_of_ble_eq_true rfl), (Nat.le_of_ble_eq_true rfl)⟩ dX11_wordOf_214 (fun r12 u9 H locs hp9 hw => ?_)
    obtain ⟨x13, rfl, rfl⟩ := hp9
    have hw : Wd G s A [] H _ := hw
    exact x_retlQ hQ B hw ⟨r12, rfl, rfl⟩ (Nat.le_of_ble_eq_true rfl) (Nat.le_of_ble_eq_true rfl) dX11_wordOf_217
  · skip
    have k1 : a1 = 6 := Int32.toInt_inj.mp (by rw [k1]; rfl)
    refine x_topi (z := 6) k1 ?_
    refine lv_tableIn (off := 217) (tgt := 218) C.1 C.2.1 dX11_wordOf_1 (by decide) (by decide) rfl (by decide) ?_
    have ha1_ := congrArg Int32.toInt k1
    have ha1_ : a1.toInt = 6 := ha1_
    refine lv_bipush (v := 110) C.1 C.2.1 dX11_wordOf_218 (by decide) ?_
    refine lv_bipush (v := 101) C.1 C.2.1 dX11_wordOf_220 (by decide) ?_
    refine lv_bipush (v := 97) C.1 C.2.1 dX11_wordOf_222 (by decide) ?_
    refine lv_bipush (v := 114) C.1 C.2.1 dX11_wordOf_224 (by decide) ?_
    refine lv_iconst (v := 0) C.1 C.2.1 dX11_wordOf_226 (by decide) ?_
    refine lv_iconst (v := 0) C.1 C.2.1 dX11_wordOf_227 (by decide) ?_
    refine lv_iconst (v := 0) C.1 C.2.1 dX11_wordOf_228 (by decide) ?_
    refine x_calllS (As := [.int 110, .int 101, .int 97, .int 114, .int 0, .int 0, .int 0]) (rest := []) (wr := []) C hw (s_X11_spelt 110 101 97 114 0 0 0) mwX11_spelt kw1366 [] [] rfl rfl rfl rfl (by decide) rfl hl.1 rfl (Nat.le_of_ble_eq_true rfl) ⟨(Nat.le_of_ble_eq_true rfl), (Nat.le_of_ble_eq_true rfl)⟩ ⟨(Nat.le_of_ble_eq_true rfl), (Nat.le_of_ble_eq_true rfl)⟩ dX11_wordOf_229 (fun r14 u9 H locs hp9 hw => ?_)
    obtain ⟨x15, rfl, rfl⟩ := hp9
    have hw : Wd G s A [] H _ := hw
    exact x_retlQ hQ B hw ⟨r14, rfl, rfl⟩ (Nat.le_of_ble_eq_true rfl) (Nat.le_of_ble_eq_true rfl) dX11_wordOf_232
  · skip
    have k1 : a1 = 7 := Int32.toInt_inj.mp (by rw [k1]; rfl)
    refine x_topi (z := 7) k1 ?_
    refine lv_tableIn (off := 232) (tgt := 233) C.1 C.2.1 dX11_wordOf_1 (by decide) (by decide) rfl (by decide) ?_
    have ha1_ := congrArg Int32.toInt k1
    have ha1_ : a1.toInt = 7 := ha1_
    refine lv_bipush (v := 97) C.1 C.2.1 dX11_wordOf_233 (by decide) ?_
    refine lv_bipush (v := 102) C.1 C.2.1 dX11_wordOf_235 (by decide) ?_
    refine lv_bipush (v := 116) C.1 C.2.1 dX11_wordOf_237 (by decide) ?_
    refine lv_bipush (v := 101) C.1 C.2.1 dX11_wordOf_239 (by decide) ?_
    refine lv_bipush (v := 114) C.1 C.2.1 dX11_wordOf_241 (by decide) ?_
    refine lv_iconst (v := 0) C.1 C.2.1 dX11_wordOf_243 (by decide) ?_
    refine lv_iconst (v := 0) C.1 C.2.1 dX11_wordOf_244 (by decide) ?_
    refine x_calllS (As := [.int 97, .int 102, .int 116, .int 101, .int 114, .int 0, .int 0]) (rest := []) (wr := []) C hw (s_X11_spelt 97 102 116 101 114 0 0) mwX11_spelt kw1366 [] [] rfl rfl rfl rfl (by decide) rfl hl.1 rfl (Nat.le_of_ble_eq_true rfl) ⟨(Nat.le_of_ble_eq_true rfl), (Nat.le_of_ble_eq_true rfl)⟩ ⟨(Nat.le_of_ble_eq_true rfl), (Nat.le_of_ble_eq_true rfl)⟩ dX11_wordOf_245 (fun r16 u9 H locs hp9 hw => ?_)
    obtain ⟨x17, rfl, rfl⟩ := hp9
    have hw : Wd G s A [] H _ := hw
    exact x_retlQ hQ B hw ⟨r16, rfl, rfl⟩ (Nat.le_of_ble_eq_true rfl) (Nat.le_of_ble_eq_true rfl) dX11_wordOf_248
  · skip
    have k1 : a1 = 8 := Int32.toInt_inj.mp (by rw [k1]; rfl)
    refine x_topi (z := 8) k1 ?_
    refine lv_tableIn (off := 248) (tgt := 249) C.1 C.2.1 dX11_wordOf_1 (by decide) (by decide) rfl (by decide) ?_
    have ha1_ := congrArg Int32.toInt k1
    have ha1_ : a1.toInt = 8 := ha1_
    refine lv_bipush (v := 112) C.1 C.2.1 dX11_wordOf_249 (by decide) ?_
    refine lv_bipush (v := 97) C.1 C.2.1 dX11_wordOf_251 (by decide) ?_
    refine lv_bipush (v := 115) C.1 C.2.1 dX11_wordOf_253 (by decide) ?_
    refine lv_bipush (v := 115) C.1 C.2.1 dX11_wordOf_255 (by decide) ?_
    refine lv_iconst (v := 0) C.1 C.2.1 dX11_wordOf_257 (by decide) ?_
    refine lv_iconst (v := 0) C.1 C.2.1 dX11_wordOf_258 (by decide) ?_
    refine lv_iconst (v := 0) C.1 C.2.1 dX11_wordOf_259 (by decide) ?_
    refine x_calllS (As := [.int 112, .int 97, .int 115, .int 115, .int 0, .int 0, .int 0]) (rest := []) (wr := []) C hw (s_X11_spelt 112 97 115 115 0 0 0) mwX11_spelt kw1366 [] [] rfl rfl rfl rfl (by decide) rfl hl.1 rfl (Nat.le_of_ble_eq_true rfl) ⟨(Nat.le_of_ble_eq_true rfl), (Nat.le_of_ble_eq_true rfl)⟩ ⟨(Nat.le_of_ble_eq_true rfl), (Nat.le_of_ble_eq_true rfl)⟩ dX11_wordOf_260 (fun r18 u9 H locs hp9 hw => ?_)
    obtain ⟨x19, rfl, rfl⟩ := hp9
    have hw : Wd G s A [] H _ := hw
    exact x_retlQ hQ B hw ⟨r18, rfl, rfl⟩ (Nat.le_of_ble_eq_true rfl) (Nat.le_of_ble_eq_true rfl) dX11_wordOf_263
  · skip
    have k1 : a1 = 9 := Int32.toInt_inj.mp (by rw [k1]; rfl)
    refine x_topi (z := 9) k1 ?_
    refine lv_tableIn (off := 263) (tgt := 264) C.1 C.2.1 dX11_wordOf_1 (by decide) (by decide) rfl (by decide) ?_
    have ha1_ := congrArg Int32.toInt k1
    have ha1_ : a1.toInt = 9 := ha1_
    refine lv_bipush (v := 115) C.1 C.2.1 dX11_wordOf_264 (by decide) ?_
    refine lv_bipush (v := 112) C.1 C.2.1 dX11_wordOf_266 (by decide) ?_
    refine lv_bipush (v := 114) C.1 C.2.1 dX11_wordOf_268 (by decide) ?_
    refine lv_bipush (v := 101) C.1 C.2.1 dX11_wordOf_270 (by decide) ?_
    refine lv_bipush (v := 97) C.1 C.2.1 dX11_wordOf_272 (by decide) ?_
    refine lv_bipush (v := 100) C.1 C.2.1 dX11_wordOf_274 (by decide) ?_
    refine lv_iconst (v := 0) C.1 C.2.1 dX11_wordOf_276 (by decide) ?_
    refine x_calllS (As := [.int 115, .int 112, .int 114, .int 101, .int 97, .int 100, .int 0]) (rest := []) (wr := []) C hw (s_X11_spelt 115 112 114 101 97 100 0) mwX11_spelt kw1366 [] [] rfl rfl rfl rfl (by decide) rfl hl.1 rfl (Nat.le_of_ble_eq_true rfl) ⟨(Nat.le_of_ble_eq_true rfl), (Nat.le_of_ble_eq_true rfl)⟩ ⟨(Nat.le_of_ble_eq_true rfl), (Nat.le_of_ble_eq_true rfl)⟩ dX11_wordOf_277 (fun r20 u9 H locs hp9 hw => ?_)
    obtain ⟨x21, rfl, rfl⟩ := hp9
    have hw : Wd G s A [] H _ := hw
    exact x_retlQ hQ B hw ⟨r20, rfl, rfl⟩ (Nat.le_of_ble_eq_true rfl) (Nat.le_of_ble_eq_true rfl) dX11_wordOf_280
  · skip
    have k1 : a1 = 10 := Int32.toInt_inj.mp (by rw [k1]; rfl)
    refine x_topi (z := 10) k1 ?_
    refine lv_tableIn (off := 280) (tgt := 281) C.1 C.2.1 dX11_wordOf_1 (by decide) (by decide) rfl (by decide) ?_
    have ha1_ := congrArg Int32.toInt k1
    have ha1_ : a1.toInt = 10 := ha1_
    refine lv_bipush (v := 108) C.1 C.2.1 dX11_wordOf_281 (by decide) ?_
    refine lv_bipush (v := 97) C.1 C.2.1 dX11_wordOf_283 (by decide) ?_
    refine lv_bipush (v := 109) C.1 C.2.1 dX11_wordOf_285 (by decide) ?_
    refine lv_bipush (v := 112) C.1 C.2.1 dX11_wordOf_287 (by decide) ?_
    refine lv_iconst (v := 0) C.1 C.2.1 dX11_wordOf_289 (by decide) ?_
    refine lv_iconst (v := 0) C.1 C.2.1 dX11_wordOf_290 (by decide) ?_
    refine lv_iconst (v := 0) C.1 C.2.1 dX11_wordOf_291 (by decide) ?_
    refine x_calllS (As := [.int 108, .int 97, .int 109, .int 112, .int 0, .int 0, .int 0]) (rest := []) (wr := []) C hw (s_X11_spelt 108 97 109 112 0 0 0) mwX11_spelt kw1366 [] [] rfl rfl rfl rfl (by decide) rfl hl.1 rfl (Nat.le_of_ble_eq_true rfl) ⟨(Nat.le_of_ble_eq_true rfl), (Nat.le_of_ble_eq_true rfl)⟩ ⟨(Nat.le_of_ble_eq_true rfl), (Nat.le_of_ble_eq_true rfl)⟩ dX11_wordOf_292 (fun r22 u9 H locs hp9 hw => ?_)
    obtain ⟨x23, rfl, rfl⟩ := hp9
    have hw : Wd G s A [] H _ := hw
    exact x_retlQ hQ B hw ⟨r22, rfl, rfl⟩ (Nat.le_of_ble_eq_true rfl) (Nat.le_of_ble_eq_true rfl) dX11_wordOf_295
  · skip
    have k1 : a1 = 11 := Int32.toInt_inj.mp (by rw [k1]; rfl)
    refine x_topi (z := 11) k1 ?_
    refine lv_tableIn (off := 295) (tgt := 296) C.1 C.2.1 dX11_wordOf_1 (by decide) (by decide) rfl (by decide) ?_
    have ha1_ := congrArg Int32.toInt k1
    have ha1_ : a1.toInt = 11 := ha1_
    refine lv_bipush (v := 115) C.1 C.2.1 dX11_wordOf_296 (by decide) ?_
    refine lv_bipush (v := 104) C.1 C.2.1 dX11_wordOf_298 (by decide) ?_
    refine lv_bipush (v := 111) C.1 C.2.1 dX11_wordOf_300 (by decide) ?_
    refine lv_bipush (v := 119) C.1 C.2.1 dX11_wordOf_302 (by decide) ?_
    refine lv_bipush (v := 110) C.1 C.2.1 dX11_wordOf_304 (by decide) ?_
    refine lv_iconst (v := 0) C.1 C.2.1 dX11_wordOf_306 (by decide) ?_
    refine lv_iconst (v := 0) C.1 C.2.1 dX11_wordOf_307 (by decide) ?_
    refine x_calllS (As := [.int 115, .int 104, .int 111, .int 119, .int 110, .int 0, .int 0]) (rest := []) (wr := []) C hw (s_X11_spelt 115 104 111 119 110 0 0) mwX11_spelt kw1366 [] [] rfl rfl rfl rfl (by decide) rfl hl.1 rfl (Nat.le_of_ble_eq_true rfl) ⟨(Nat.le_of_ble_eq_true rfl), (Nat.le_of_ble_eq_true rfl)⟩ ⟨(Nat.le_of_ble_eq_true rfl), (Nat.le_of_ble_eq_true rfl)⟩ dX11_wordOf_308 (fun r24 u9 H locs hp9 hw => ?_)
    obtain ⟨x25, rfl, rfl⟩ := hp9
    have hw : Wd G s A [] H _ := hw
    exact x_retlQ hQ B hw ⟨r24, rfl, rfl⟩ (Nat.le_of_ble_eq_true rfl) (Nat.le_of_ble_eq_true rfl) dX11_wordOf_311
  · skip
    have k1 : a1 = 12 := Int32.toInt_inj.mp (by rw [k1]; rfl)
    refine x_topi (z := 12) k1 ?_
    refine lv_tableIn (off := 311) (tgt := 312) C.1 C.2.1 dX11_wordOf_1 (by decide) (by decide) rfl (by decide) ?_
    have ha1_ := congrArg Int32.toInt k1
    have ha1_ : a1.toInt = 12 := ha1_
    refine lv_bipush (v := 111) C.1 C.2.1 dX11_wordOf_312 (by decide) ?_
    refine lv_bipush (v := 118) C.1 C.2.1 dX11_wordOf_314 (by decide) ?_
    refine lv_bipush (v := 101) C.1 C.2.1 dX11_wordOf_316 (by decide) ?_
    refine lv_bipush (v := 114) C.1 C.2.1 dX11_wordOf_318 (by decide) ?_
    refine lv_iconst (v := 0) C.1 C.2.1 dX11_wordOf_320 (by decide) ?_
    refine lv_iconst (v := 0) C.1 C.2.1 dX11_wordOf_321 (by decide) ?_
    refine lv_iconst (v := 0) C.1 C.2.1 dX11_wordOf_322 (by decide) ?_
    refine x_calllS (As := [.int 111, .int 118, .int 101, .int 114, .int 0, .int 0, .int 0]) (rest := []) (wr := []) C hw (s_X11_spelt 111 118 101 114 0 0 0) mwX11_spelt kw1366 [] [] rfl rfl rfl rfl (by decide) rfl hl.1 rfl (Nat.le_of_ble_eq_true rfl) ⟨(Nat.le_of_ble_eq_true rfl), (Nat.le_of_ble_eq_true rfl)⟩ ⟨(Nat.le_of_ble_eq_true rfl), (Nat.le_of_ble_eq_true rfl)⟩ dX11_wordOf_323 (fun r26 u9 H locs hp9 hw => ?_)
    obtain ⟨x27, rfl, rfl⟩ := hp9
    have hw : Wd G s A [] H _ := hw
    exact x_retlQ hQ B hw ⟨r26, rfl, rfl⟩ (Nat.le_of_ble_eq_true rfl) (Nat.le_of_ble_eq_true rfl) dX11_wordOf_326
  · skip
    have k1 : a1 = 13 := Int32.toInt_inj.mp (by rw [k1]; rfl)
    refine x_topi (z := 13) k1 ?_
    refine lv_tableIn (off := 326) (tgt := 327) C.1 C.2.1 dX11_wordOf_1 (by decide) (by decide) rfl (by decide) ?_
    have ha1_ := congrArg Int32.toInt k1
    have ha1_ : a1.toInt = 13 := ha1_
    refine lv_bipush (v := 115) C.1 C.2.1 dX11_wordOf_327 (by decide) ?_
    refine lv_bipush (v := 99) C.1 C.2.1 dX11_wordOf_329 (by decide) ?_
    refine lv_bipush (v := 114) C.1 C.2.1 dX11_wordOf_331 (by decide) ?_
    refine lv_bipush (v := 97) C.1 C.2.1 dX11_wordOf_333 (by decide) ?_
    refine lv_bipush (v := 116) C.1 C.2.1 dX11_wordOf_335 (by decide) ?_
    refine lv_bipush (v := 99) C.1 C.2.1 dX11_wordOf_337 (by decide) ?_
    refine lv_bipush (v := 104) C.1 C.2.1 dX11_wordOf_339 (by decide) ?_
    refine x_calllS (As := [.int 115, .int 99, .int 114, .int 97, .int 116, .int 99, .int 104]) (rest := []) (wr := []) C hw (s_X11_spelt 115 99 114 97 116 99 104) mwX11_spelt kw1366 [] [] rfl rfl rfl rfl (by decide) rfl hl.1 rfl (Nat.le_of_ble_eq_true rfl) ⟨(Nat.le_of_ble_eq_true rfl), (Nat.le_of_ble_eq_true rfl)⟩ ⟨(Nat.le_of_ble_eq_true rfl), (Nat.le_of_ble_eq_true rfl)⟩ dX11_wordOf_341 (fun r28 u9 H locs hp9 hw => ?_)
    obtain ⟨x29, rfl, rfl⟩ := hp9
    have hw : Wd G s A [] H _ := hw
    exact x_retlQ hQ B hw ⟨r28, rfl, rfl⟩ (Nat.le_of_ble_eq_true rfl) (Nat.le_of_ble_eq_true rfl) dX11_wordOf_344
  · skip
    have k1 : a1 = 14 := Int32.toInt_inj.mp (by rw [k1]; rfl)
    refine x_topi (z := 14) k1 ?_
    refine lv_tableIn (off := 344) (tgt := 345) C.1 C.2.1 dX11_wordOf_1 (by decide) (by decide) rfl (by decide) ?_
    have ha1_ := congrArg Int32.toInt k1
    have ha1_ : a1.toInt = 14 := ha1_
    refine lv_bipush (v := 115) C.1 C.2.1 dX11_wordOf_345 (by decide) ?_
    refine lv_bipush (v := 105) C.1 C.2.1 dX11_wordOf_347 (by decide) ?_
    refine lv_bipush (v := 116) C.1 C.2.1 dX11_wordOf_349 (by decide) ?_
    refine lv_bipush (v := 115) C.1 C.2.1 dX11_wordOf_351 (by decide) ?_
    refine lv_iconst (v := 0) C.1 C.2.1 dX11_wordOf_353 (by decide) ?_
    refine lv_iconst (v := 0) C.1 C.2.1 dX11_wordOf_354 (by decide) ?_
    refine lv_iconst (v := 0) C.1 C.2.1 dX11_wordOf_355 (by decide) ?_
    refine x_calllS (As := [.int 115, .int 105, .int 116, .int 115, .int 0, .int 0, .int 0]) (rest := []) (wr := []) C hw (s_X11_spelt 115 105 116 115 0 0 0) mwX11_spelt kw1366 [] [] rfl rfl rfl rfl (by decide) rfl hl.1 rfl (Nat.le_of_ble_eq_true rfl) ⟨(Nat.le_of_ble_eq_true rfl), (Nat.le_of_ble_eq_true rfl)⟩ ⟨(Nat.le_of_ble_eq_true rfl), (Nat.le_of_ble_eq_true rfl)⟩ dX11_wordOf_356 (fun r30 u9 H locs hp9 hw => ?_)
    obtain ⟨x31, rfl, rfl⟩ := hp9
    have hw : Wd G s A [] H _ := hw
    exact x_retlQ hQ B hw ⟨r30, rfl, rfl⟩ (Nat.le_of_ble_eq_true rfl) (Nat.le_of_ble_eq_true rfl) dX11_wordOf_359
  · skip
    have k1 : a1 = 15 := Int32.toInt_inj.mp (by rw [k1]; rfl)
    refine x_topi (z := 15) k1 ?_
    refine lv_tableIn (off := 359) (tgt := 360) C.1 C.2.1 dX11_wordOf_1 (by decide) (by decide) rfl (by decide) ?_
    have ha1_ := congrArg Int32.toInt k1
    have ha1_ : a1.toInt = 15 := ha1_
    refine lv_bipush (v := 104) C.1 C.2.1 dX11_wordOf_360 (by decide) ?_
    refine lv_bipush (v := 111) C.1 C.2.1 dX11_wordOf_362 (by decide) ?_
    refine lv_bipush (v := 117) C.1 C.2.1 dX11_wordOf_364 (by decide) ?_
    refine lv_bipush (v := 114) C.1 C.2.1 dX11_wordOf_366 (by decide) ?_
    refine lv_iconst (v := 0) C.1 C.2.1 dX11_wordOf_368 (by decide) ?_
    refine lv_iconst (v := 0) C.1 C.2.1 dX11_wordOf_369 (by decide) ?_
    refine lv_iconst (v := 0) C.1 C.2.1 dX11_wordOf_370 (by decide) ?_
    refine x_calllS (As := [.int 104, .int 111, .int 117, .int 114, .int 0, .int 0, .int 0]) (rest := []) (wr := []) C hw (s_X11_spelt 104 111 117 114 0 0 0) mwX11_spelt kw1366 [] [] rfl rfl rfl rfl (by decide) rfl hl.1 rfl (Nat.le_of_ble_eq_true rfl) ⟨(Nat.le_of_ble_eq_true rfl), (Nat.le_of_ble_eq_true rfl)⟩ ⟨(Nat.le_of_ble_eq_true rfl), (Nat.le_of_ble_eq_true rfl)⟩ dX11_wordOf_371 (fun r32 u9 H locs hp9 hw => ?_)
    obtain ⟨x33, rfl, rfl⟩ := hp9
    have hw : Wd G s A [] H _ := hw
    exact x_retlQ hQ B hw ⟨r32, rfl, rfl⟩ (Nat.le_of_ble_eq_true rfl) (Nat.le_of_ble_eq_true rfl) dX11_wordOf_374
  · skip
    have k1 : a1 = 16 := Int32.toInt_inj.mp (by rw [k1]; rfl)
    refine x_topi (z := 16) k1 ?_
    refine lv_tableIn (off := 374) (tgt := 375) C.1 C.2.1 dX11_wordOf_1 (by decide) (by decide) rfl (by decide) ?_
    have ha1_ := congrArg Int32.toInt k1
    have ha1_ : a1.toInt = 16 := ha1_
    refine lv_bipush (v := 111) C.1 C.2.1 dX11_wordOf_375 (by decide) ?_
    refine lv_bipush (v := 114) C.1 C.2.1 dX11_wordOf_377 (by decide) ?_
    refine lv_iconst (v := 0) C.1 C.2.1 dX11_wordOf_379 (by decide) ?_
    refine lv_iconst (v := 0) C.1 C.2.1 dX11_wordOf_380 (by decide) ?_
    refine lv_iconst (v := 0) C.1 C.2.1 dX11_wordOf_381 (by decide) ?_
    refine lv_iconst (v := 0) C.1 C.2.1 dX11_wordOf_382 (by decide) ?_
    refine lv_iconst (v := 0) C.1 C.2.1 dX11_wordOf_383 (by decide) ?_
    refine x_calllS (As := [.int 111, .int 114, .int 0, .int 0, .int 0, .int 0, .int 0]) (rest := []) (wr := []) C hw (s_X11_spelt 111 114 0 0 0 0 0) mwX11_spelt kw1366 [] [] rfl rfl rfl rfl (by decide) rfl hl.1 rfl (Nat.le_of_ble_eq_true rfl) ⟨(Nat.le_of_ble_eq_true rfl), (Nat.le_of_ble_eq_true rfl)⟩ ⟨(Nat.le_of_ble_eq_true rfl), (Nat.le_of_ble_eq_true rfl)⟩ dX11_wordOf_384 (fun r34 u9 H locs hp9 hw => ?_)
    obtain ⟨x35, rfl, rfl⟩ := hp9
    have hw : Wd G s A [] H _ := hw
    exact x_retlQ hQ B hw ⟨r34, rfl, rfl⟩ (Nat.le_of_ble_eq_true rfl) (Nat.le_of_ble_eq_true rfl) dX11_wordOf_387
  · skip
    have k1 : a1 = 17 := Int32.toInt_inj.mp (by rw [k1]; rfl)
    refine x_topi (z := 17) k1 ?_
    refine lv_tableIn (off := 387) (tgt := 388) C.1 C.2.1 dX11_wordOf_1 (by decide) (by decide) rfl (by decide) ?_
    have ha1_ := congrArg Int32.toInt k1
    have ha1_ : a1.toInt = 17 := ha1_
    refine lv_bipush (v := 97) C.1 C.2.1 dX11_wordOf_388 (by decide) ?_
    refine lv_bipush (v := 110) C.1 C.2.1 dX11_wordOf_390 (by decide) ?_
    refine lv_bipush (v := 100) C.1 C.2.1 dX11_wordOf_392 (by decide) ?_
    refine lv_iconst (v := 0) C.1 C.2.1 dX11_wordOf_394 (by decide) ?_
    refine lv_iconst (v := 0) C.1 C.2.1 dX11_wordOf_395 (by decide) ?_
    refine lv_iconst (v := 0) C.1 C.2.1 dX11_wordOf_396 (by decide) ?_
    refine lv_iconst (v := 0) C.1 C.2.1 dX11_wordOf_397 (by decide) ?_
    refine x_calllS (As := [.int 97, .int 110, .int 100, .int 0, .int 0, .int 0, .int 0]) (rest := []) (wr := []) C hw (s_X11_spelt 97 110 100 0 0 0 0) mwX11_spelt kw1366 [] [] rfl rfl rfl rfl (by decide) rfl hl.1 rfl (Nat.le_of_ble_eq_true rfl) ⟨(Nat.le_of_ble_eq_true rfl), (Nat.le_of_ble_eq_true rfl)⟩ ⟨(Nat.le_of_ble_eq_true rfl), (Nat.le_of_ble_eq_true rfl)⟩ dX11_wordOf_398 (fun r36 u9 H locs hp9 hw => ?_)
    obtain ⟨x37, rfl, rfl⟩ := hp9
    have hw : Wd G s A [] H _ := hw
    exact x_retlQ hQ B hw ⟨r36, rfl, rfl⟩ (Nat.le_of_ble_eq_true rfl) (Nat.le_of_ble_eq_true rfl) dX11_wordOf_401
  · skip
    have k1 : a1 = 18 := Int32.toInt_inj.mp (by rw [k1]; rfl)
    refine x_topi (z := 18) k1 ?_
    refine lv_tableIn (off := 401) (tgt := 402) C.1 C.2.1 dX11_wordOf_1 (by decide) (by decide) rfl (by decide) ?_
    have ha1_ := congrArg Int32.toInt k1
    have ha1_ : a1.toInt = 18 := ha1_
    refine lv_bipush (v := 110) C.1 C.2.1 dX11_wordOf_402 (by decide) ?_
    refine lv_bipush (v := 111) C.1 C.2.1 dX11_wordOf_404 (by decide) ?_
    refine lv_bipush (v := 116) C.1 C.2.1 dX11_wordOf_406 (by decide) ?_
    refine lv_iconst (v := 0) C.1 C.2.1 dX11_wordOf_408 (by decide) ?_
    refine lv_iconst (v := 0) C.1 C.2.1 dX11_wordOf_409 (by decide) ?_
    refine lv_iconst (v := 0) C.1 C.2.1 dX11_wordOf_410 (by decide) ?_
    refine lv_iconst (v := 0) C.1 C.2.1 dX11_wordOf_411 (by decide) ?_
    refine x_calllS (As := [.int 110, .int 111, .int 116, .int 0, .int 0, .int 0, .int 0]) (rest := []) (wr := []) C hw (s_X11_spelt 110 111 116 0 0 0 0) mwX11_spelt kw1366 [] [] rfl rfl rfl rfl (by decide) rfl hl.1 rfl (Nat.le_of_ble_eq_true rfl) ⟨(Nat.le_of_ble_eq_true rfl), (Nat.le_of_ble_eq_true rfl)⟩ ⟨(Nat.le_of_ble_eq_true rfl), (Nat.le_of_ble_eq_true rfl)⟩ dX11_wordOf_412 (fun r38 u9 H locs hp9 hw => ?_)
    obtain ⟨x39, rfl, rfl⟩ := hp9
    have hw : Wd G s A [] H _ := hw
    exact x_retlQ hQ B hw ⟨r38, rfl, rfl⟩ (Nat.le_of_ble_eq_true rfl) (Nat.le_of_ble_eq_true rfl) dX11_wordOf_415
  · skip
    have k1 : a1 = 19 := Int32.toInt_inj.mp (by rw [k1]; rfl)
    refine x_topi (z := 19) k1 ?_
    refine lv_tableIn (off := 415) (tgt := 416) C.1 C.2.1 dX11_wordOf_1 (by decide) (by decide) rfl (by decide) ?_
    have ha1_ := congrArg Int32.toInt k1
    have ha1_ : a1.toInt = 19 := ha1_
    refine lv_bipush (v := 115) C.1 C.2.1 dX11_wordOf_416 (by decide) ?_
    refine lv_bipush (v := 111) C.1 C.2.1 dX11_wordOf_418 (by decide) ?_
    refine lv_iconst (v := 0) C.1 C.2.1 dX11_wordOf_420 (by decide) ?_
    refine lv_iconst (v := 0) C.1 C.2.1 dX11_wordOf_421 (by decide) ?_
    refine lv_iconst (v := 0) C.1 C.2.1 dX11_wordOf_422 (by decide) ?_
    refine lv_iconst (v := 0) C.1 C.2.1 dX11_wordOf_423 (by decide) ?_
    refine lv_iconst (v := 0) C.1 C.2.1 dX11_wordOf_424 (by decide) ?_
    refine x_calllS (As := [.int 115, .int 111, .int 0, .int 0, .int 0, .int 0, .int 0]) (rest := []) (wr := []) C hw (s_X11_spelt 115 111 0 0 0 0 0) mwX11_spelt kw1366 [] [] rfl rfl rfl rfl (by decide) rfl hl.1 rfl (Nat.le_of_ble_eq_true rfl) ⟨(Nat.le_of_ble_eq_true rfl), (Nat.le_of_ble_eq_true rfl)⟩ ⟨(Nat.le_of_ble_eq_true rfl), (Nat.le_of_ble_eq_true rfl)⟩ dX11_wordOf_425 (fun r40 u9 H locs hp9 hw => ?_)
    obtain ⟨x41, rfl, rfl⟩ := hp9
    have hw : Wd G s A [] H _ := hw
    exact x_retlQ hQ B hw ⟨r40, rfl, rfl⟩ (Nat.le_of_ble_eq_true rfl) (Nat.le_of_ble_eq_true rfl) dX11_wordOf_428
  · skip
    have k1 : a1 = 20 := Int32.toInt_inj.mp (by rw [k1]; rfl)
    refine x_topi (z := 20) k1 ?_
    refine lv_tableIn (off := 428) (tgt := 429) C.1 C.2.1 dX11_wordOf_1 (by decide) (by decide) rfl (by decide) ?_
    have ha1_ := congrArg Int32.toInt k1
    have ha1_ : a1.toInt = 20 := ha1_
    refine lv_bipush (v := 99) C.1 C.2.1 dX11_wordOf_429 (by decide) ?_
    refine lv_bipush (v := 114) C.1 C.2.1 dX11_wordOf_431 (by decide) ?_
    refine lv_bipush (v := 97) C.1 C.2.1 dX11_wordOf_433 (by decide) ?_
    refine lv_bipush (v := 99) C.1 C.2.1 dX11_wordOf_435 (by decide) ?_
    refine lv_bipush (v := 107) C.1 C.2.1 dX11_wordOf_437 (by decide) ?_
    refine lv_bipush (v := 101) C.1 C.2.1 dX11_wordOf_439 (by decide) ?_
    refine lv_bipush (v := 100) C.1 C.2.1 dX11_wordOf_441 (by decide) ?_
    refine x_calllS (As := [.int 99, .int 114, .int 97, .int 99, .int 107, .int 101, .int 100]) (rest := []) (wr := []) C hw (s_X11_spelt 99 114 97 99 107 101 100) mwX11_spelt kw1366 [] [] rfl rfl rfl rfl (by decide) rfl hl.1 rfl (Nat.le_of_ble_eq_true rfl) ⟨(Nat.le_of_ble_eq_true rfl), (Nat.le_of_ble_eq_true rfl)⟩ ⟨(Nat.le_of_ble_eq_true rfl), (Nat.le_of_ble_eq_true rfl)⟩ dX11_wordOf_443 (fun r42 u9 H locs hp9 hw => ?_)
    obtain ⟨x43, rfl, rfl⟩ := hp9
    have hw : Wd G s A [] H _ := hw
    exact x_retlQ hQ B hw ⟨r42, rfl, rfl⟩ (Nat.le_of_ble_eq_true rfl) (Nat.le_of_ble_eq_true rfl) dX11_wordOf_446
  · skip
    have k1 : a1 = 21 := Int32.toInt_inj.mp (by rw [k1]; rfl)
    refine x_topi (z := 21) k1 ?_
    refine lv_tableIn (off := 446) (tgt := 447) C.1 C.2.1 dX11_wordOf_1 (by decide) (by decide) rfl (by decide) ?_
    have ha1_ := congrArg Int32.toInt k1
    have ha1_ : a1.toInt = 21 := ha1_
    refine lv_bipush (v := 101) C.1 C.2.1 dX11_wordOf_447 (by decide) ?_
    refine lv_bipush (v := 118) C.1 C.2.1 dX11_wordOf_449 (by decide) ?_
    refine lv_bipush (v := 101) C.1 C.2.1 dX11_wordOf_451 (by decide) ?_
    refine lv_bipush (v := 110) C.1 C.2.1 dX11_wordOf_453 (by decide) ?_
    refine lv_iconst (v := 0) C.1 C.2.1 dX11_wordOf_455 (by decide) ?_
    refine lv_iconst (v := 0) C.1 C.2.1 dX11_wordOf_456 (by decide) ?_
    refine lv_iconst (v := 0) C.1 C.2.1 dX11_wordOf_457 (by decide) ?_
    refine x_calllS (As := [.int 101, .int 118, .int 101, .int 110, .int 0, .int 0, .int 0]) (rest := []) (wr := []) C hw (s_X11_spelt 101 118 101 110 0 0 0) mwX11_spelt kw1366 [] [] rfl rfl rfl rfl (by decide) rfl hl.1 rfl (Nat.le_of_ble_eq_true rfl) ⟨(Nat.le_of_ble_eq_true rfl), (Nat.le_of_ble_eq_true rfl)⟩ ⟨(Nat.le_of_ble_eq_true rfl), (Nat.le_of_ble_eq_true rfl)⟩ dX11_wordOf_458 (fun r44 u9 H locs hp9 hw => ?_)
    obtain ⟨x45, rfl, rfl⟩ := hp9
    have hw : Wd G s A [] H _ := hw
    exact x_retlQ hQ B hw ⟨r44, rfl, rfl⟩ (Nat.le_of_ble_eq_true rfl) (Nat.le_of_ble_eq_true rfl) dX11_wordOf_461
  · skip
    have k1 : a1 = 22 := Int32.toInt_inj.mp (by rw [k1]; rfl)
    refine x_topi (z := 22) k1 ?_
    refine lv_tableIn (off := 461) (tgt := 462) C.1 C.2.1 dX11_wordOf_1 (by decide) (by decide) rfl (by decide) ?_
    have ha1_ := congrArg Int32.toInt k1
    have ha1_ : a1.toInt = 22 := ha1_
    refine lv_bipush (v := 108) C.1 C.2.1 dX11_wordOf_462 (by decide) ?_
    refine lv_bipush (v := 105) C.1 C.2.1 dX11_wordOf_464 (by decide) ?_
    refine lv_bipush (v := 107) C.1 C.2.1 dX11_wordOf_466 (by decide) ?_
    refine lv_bipush (v := 101) C.1 C.2.1 dX11_wordOf_468 (by decide) ?_
    refine lv_iconst (v := 0) C.1 C.2.1 dX11_wordOf_470 (by decide) ?_
    refine lv_iconst (v := 0) C.1 C.2.1 dX11_wordOf_471 (by decide) ?_
    refine lv_iconst (v := 0) C.1 C.2.1 dX11_wordOf_472 (by decide) ?_
    refine x_calllS (As := [.int 108, .int 105, .int 107, .int 101, .int 0, .int 0, .int 0]) (rest := []) (wr := []) C hw (s_X11_spelt 108 105 107 101 0 0 0) mwX11_spelt kw1366 [] [] rfl rfl rfl rfl (by decide) rfl hl.1 rfl (Nat.le_of_ble_eq_true rfl) ⟨(Nat.le_of_ble_eq_true rfl), (Nat.le_of_ble_eq_true rfl)⟩ ⟨(Nat.le_of_ble_eq_true rfl), (Nat.le_of_ble_eq_true rfl)⟩ dX11_wordOf_473 (fun r46 u9 H locs hp9 hw => ?_)
    obtain ⟨x47, rfl, rfl⟩ := hp9
    have hw : Wd G s A [] H _ := hw
    exact x_retlQ hQ B hw ⟨r46, rfl, rfl⟩ (Nat.le_of_ble_eq_true rfl) (Nat.le_of_ble_eq_true rfl) dX11_wordOf_476
  · skip
    have k1 : a1 = 23 := Int32.toInt_inj.mp (by rw [k1]; rfl)
    refine x_topi (z := 23) k1 ?_
    refine lv_tableIn (off := 476) (tgt := 477) C.1 C.2.1 dX11_wordOf_1 (by decide) (by decide) rfl (by decide) ?_
    have ha1_ := congrArg Int32.toInt k1
    have ha1_ : a1.toInt = 23 := ha1_
    refine lv_bipush (v := 108) C.1 C.2.1 dX11_wordOf_477 (by decide) ?_
    refine lv_bipush (v := 105) C.1 C.2.1 dX11_wordOf_479 (by decide) ?_
    refine lv_bipush (v := 103) C.1 C.2.1 dX11_wordOf_481 (by decide) ?_
    refine lv_bipush (v := 104) C.1 C.2.1 dX11_wordOf_483 (by decide) ?_
    refine lv_bipush (v := 116) C.1 C.2.1 dX11_wordOf_485 (by decide) ?_
    refine lv_iconst (v := 0) C.1 C.2.1 dX11_wordOf_487 (by decide) ?_
    refine lv_iconst (v := 0) C.1 C.2.1 dX11_wordOf_488 (by decide) ?_
    refine x_calllS (As := [.int 108, .int 105, .int 103, .int 104, .int 116, .int 0, .int 0]) (rest := []) (wr := []) C hw (s_X11_spelt 108 105 103 104 116 0 0) mwX11_spelt kw1366 [] [] rfl rfl rfl rfl (by decide) rfl hl.1 rfl (Nat.le_of_ble_eq_true rfl) ⟨(Nat.le_of_ble_eq_true rfl), (Nat.le_of_ble_eq_true rfl)⟩ ⟨(Nat.le_of_ble_eq_true rfl), (Nat.le_of_ble_eq_true rfl)⟩ dX11_wordOf_489 (fun r48 u9 H locs hp9 hw => ?_)
    obtain ⟨x49, rfl, rfl⟩ := hp9
    have hw : Wd G s A [] H _ := hw
    exact x_retlQ hQ B hw ⟨r48, rfl, rfl⟩ (Nat.le_of_ble_eq_true rfl) (Nat.le_of_ble_eq_true rfl) dX11_wordOf_492
  · skip
    have k1 : a1 = 24 := Int32.toInt_inj.mp (by rw [k1]; rfl)
    refine x_topi (z := 24) k1 ?_
    refine lv_tableIn (off := 492) (tgt := 493) C.1 C.2.1 dX11_wordOf_1 (by decide) (by decide) rfl (by decide) ?_
    have ha1_ := congrArg Int32.toInt k1
    have ha1_ : a1.toInt = 24 := ha1_
    refine lv_bipush (v := 104) C.1 C.2.1 dX11_wordOf_493 (by decide) ?_
    refine lv_bipush (v := 101) C.1 C.2.1 dX11_wordOf_495 (by decide) ?_
    refine lv_bipush (v := 97) C.1 C.2.1 dX11_wordOf_497 (by decide) ?_
    refine lv_bipush (v := 116) C.1 C.2.1 dX11_wordOf_499 (by decide) ?_
    refine lv_iconst (v := 0) C.1 C.2.1 dX11_wordOf_501 (by decide) ?_
    refine lv_iconst (v := 0) C.1 C.2.1 dX11_wordOf_502 (by decide) ?_
    refine lv_iconst (v := 0) C.1 C.2.1 dX11_wordOf_503 (by decide) ?_
    refine x_calllS (As := [.int 104, .int 101, .int 97, .int 116, .int 0, .int 0, .int 0]) (rest := []) (wr := []) C hw (s_X11_spelt 104 101 97 116 0 0 0) mwX11_spelt kw1366 [] [] rfl rfl rfl rfl (by decide) rfl hl.1 rfl (Nat.le_of_ble_eq_true rfl) ⟨(Nat.le_of_ble_eq_true rfl), (Nat.le_of_ble_eq_true rfl)⟩ ⟨(Nat.le_of_ble_eq_true rfl), (Nat.le_of_ble_eq_true rfl)⟩ dX11_wordOf_504 (fun r50 u9 H locs hp9 hw => ?_)
    obtain ⟨x51, rfl, rfl⟩ := hp9
    have hw : Wd G s A [] H _ := hw
    exact x_retlQ hQ B hw ⟨r50, rfl, rfl⟩ (Nat.le_of_ble_eq_true rfl) (Nat.le_of_ble_eq_true rfl) dX11_wordOf_507
  · skip
    have k1 : a1 = 25 := Int32.toInt_inj.mp (by rw [k1]; rfl)
    refine x_topi (z := 25) k1 ?_
    refine lv_tableIn (off := 507) (tgt := 508) C.1 C.2.1 dX11_wordOf_1 (by decide) (by decide) rfl (by decide) ?_
    have ha1_ := congrArg Int32.toInt k1
    have ha1_ : a1.toInt = 25 := ha1_
    refine lv_bipush (v := 115) C.1 C.2.1 dX11_wordOf_508 (by decide) ?_
    refine lv_bipush (v := 105) C.1 C.2.1 dX11_wordOf_510 (by decide) ?_
    refine lv_bipush (v := 103) C.1 C.2.1 dX11_wordOf_512 (by decide) ?_
    refine lv_bipush (v := 104) C.1 C.2.1 dX11_wordOf_514 (by decide) ?_
    refine lv_bipush (v := 115) C.1 C.2.1 dX11_wordOf_516 (by decide) ?_
    refine lv_iconst (v := 0) C.1 C.2.1 dX11_wordOf_518 (by decide) ?_
    refine lv_iconst (v := 0) C.1 C.2.1 dX11_wordOf_519 (by decide) ?_
    refine x_calllS (As := [.int 115, .int 105, .int 103, .int 104, .int 115, .int 0, .int 0]) (rest := []) (wr := []) C hw (s_X11_spelt 115 105 103 104 115 0 0) mwX11_spelt kw1366 [] [] rfl rfl rfl rfl (by decide) rfl hl.1 rfl (Nat.le_of_ble_eq_true rfl) ⟨(Nat.le_of_ble_eq_true rfl), (Nat.le_of_ble_eq_true rfl)⟩ ⟨(Nat.le_of_ble_eq_true rfl), (Nat.le_of_ble_eq_true rfl)⟩ dX11_wordOf_520 (fun r52 u9 H locs hp9 hw => ?_)
    obtain ⟨x53, rfl, rfl⟩ := hp9
    have hw : Wd G s A [] H _ := hw
    exact x_retlQ hQ B hw ⟨r52, rfl, rfl⟩ (Nat.le_of_ble_eq_true rfl) (Nat.le_of_ble_eq_true rfl) dX11_wordOf_523
  · skip
    refine lv_tableOut (tgt := 524) C.1 C.2.1 dX11_wordOf_1 (by omega) (by decide) ?_
    refine lv_bipush (v := 110) C.1 C.2.1 dX11_wordOf_524 (by decide) ?_
    refine lv_bipush (v := 117) C.1 C.2.1 dX11_wordOf_526 (by decide) ?_
    refine lv_bipush (v := 109) C.1 C.2.1 dX11_wordOf_528 (by decide) ?_
    refine lv_bipush (v := 98) C.1 C.2.1 dX11_wordOf_530 (by decide) ?_
    refine lv_bipush (v := 101) C.1 C.2.1 dX11_wordOf_532 (by decide) ?_
    refine lv_bipush (v := 114) C.1 C.2.1 dX11_wordOf_534 (by decide) ?_
    refine lv_iconst (v := 0) C.1 C.2.1 dX11_wordOf_536 (by decide) ?_
    refine x_calllS (As := [.int 110, .int 117, .int 109, .int 98, .int 101, .int 114, .int 0]) (rest := []) (wr := []) C hw (s_X11_spelt 110 117 109 98 101 114 0) mwX11_spelt kw1366 [] [] rfl rfl rfl rfl (by decide) rfl hl.1 rfl (Nat.le_of_ble_eq_true rfl) ⟨(Nat.le_of_ble_eq_true rfl), (Nat.le_of_ble_eq_true rfl)⟩ ⟨(Nat.le_of_ble_eq_true rfl), (Nat.le_of_ble_eq_true rfl)⟩ dX11_wordOf_537 (fun r54 u9 H locs hp9 hw => ?_)
    obtain ⟨x55, rfl, rfl⟩ := hp9
    have hw : Wd G s A [] H _ := hw
    exact x_retlQ hQ B hw ⟨r54, rfl, rfl⟩ (Nat.le_of_ble_eq_true rfl) (Nat.le_of_ble_eq_true rfl) dX11_wordOf_540
theorem dX11_refuse_0 : decode cX11_refuse 0 = .ok (.aload_n 0, 1) := by decide +kernel
theorem dX11_refuse_1 : decode cX11_refuse 1 = .ok (.iconst 1, 1) := by decide +kernel
theorem dX11_refuse_2 : decode cX11_refuse 2 = .ok (.putfield 1, 3) := by decide +kernel
theorem dX11_refuse_5 : decode cX11_refuse 5 = .ok (.iconst 0, 1) := by decide +kernel
theorem dX11_refuse_6 : decode cX11_refuse 6 = .ok (.ireturn, 1) := by decide +kernel
set_option maxHeartbeats 4000000 in
set_option maxRecDepth 100000 in
theorem s_X11_refuse {l : Launch} {G : Gc} (qm : Nat) (qm_thrown : Int32) (qm_tape : Nat) (qm_taped : Int32) (qm_size : Int32) (qm_limit : Int32) (qm_to : Int32) (qm_from : Int32) (qm_kind : Int32) (qm_number : Int32) (qm_sign : Int32) (qm_fault : Int32) (qm_place : Int32) (qm_word : Int64) (qm_told : Int32) (qm_now : Nat) (qm_read : Nat) (qm_kept : Nat) (qm_snaps : Nat) (qm_aside : Nat) (qm_name : Nat) (qm_readName : Nat) (qm_keptName : Nat) (qm_isKept : Nat) (qm_onces : Nat) (qm_snapMany : Int32) (qm_order : Nat) (qm_ordered : Nat) (qm_orderMany : Int32) (qm_orderMost : Int32) (qm_passing : Int32) (qm_movedWho : Int32) (qm_scratched : Int32) (qm_text : Nat) (qm_texts : Int32) (qm_seed : Int32) (qm_line : Nat) (qm_written : Nat) (qm_lineMany : Int32) (qm_hasWritten : Int32) (qm_node : Nat) (qm_nodes : Int32) (qm_onesMany : Int32) (qm_within : Int32) (qm_top : Int32)  : Ci l yX11_refuse cX11_refuse 1 (some .int) 0 0 0 G [.ref qm] [(qm, .inr (10, [.int qm_thrown, .ref qm_tape, .int qm_taped, .int qm_size, .int qm_limit, .int qm_to, .int qm_from, .int qm_kind, .int qm_number, .int qm_sign, .int qm_fault, .int qm_place, .long qm_word, .int qm_told, .ref qm_now, .ref qm_read, .ref qm_kept, .ref qm_snaps, .ref qm_aside, .ref qm_name, .ref qm_readName, .ref qm_keptName, .ref qm_isKept, .ref qm_onces, .int qm_snapMany, .ref qm_order, .ref qm_ordered, .int qm_orderMany, .int qm_orderMost, .int qm_passing, .int qm_movedWho, .int qm_scratched, .ref qm_text, .int qm_texts, .int qm_seed, .ref qm_line, .ref qm_written, .int qm_lineMany, .int qm_hasWritten, .ref qm_node, .int qm_nodes, .int qm_onesMany, .int qm_within, .int qm_top]))] (fun (r9 : Int32) (u9 : va_W) => r9 = 0 ∧ u9 = [(qm, .inr (10, [.int 1, .ref qm_tape, .int qm_taped, .int qm_size, .int qm_limit, .int qm_to, .int qm_from, .int qm_kind, .int qm_number, .int qm_sign, .int qm_fault, .int qm_place, .long qm_word, .int qm_told, .ref qm_now, .ref qm_read, .ref qm_kept, .ref qm_snaps, .ref qm_aside, .ref qm_name, .ref qm_readName, .ref qm_keptName, .ref qm_isKept, .ref qm_onces, .int qm_snapMany, .ref qm_order, .ref qm_ordered, .int qm_orderMany, .int qm_orderMost, .int qm_passing, .int qm_movedWho, .int qm_scratched, .ref qm_text, .int qm_texts, .int qm_seed, .ref qm_line, .ref qm_written, .int qm_lineMany, .int qm_hasWritten, .ref qm_node, .int qm_nodes, .int qm_onesMany, .int qm_within, .int qm_top]))]) := by
  refine Ci.ofQ (by decide) (Nat.le_of_ble_eq_true rfl) ?_
  intro p e s m below meth c ls A args Q hQ B hw hl
  have C : CallFix p m c cX11_refuse 1 s args gw "LanternStateModel" := B.1
  have hl : lv_has ls 1 [(0, .ref qm)] := hl
  refine lv_aload_n C.1 C.2.1 dX11_refuse_0 rfl (lv_at hl 0 rfl) ?_
  refine lv_iconst (v := 1) C.1 C.2.1 dX11_refuse_1 (by decide) ?_
  refine x_put (w' := [(qm, .inr (10, [.int 1, .ref qm_tape, .int qm_taped, .int qm_size, .int qm_limit, .int qm_to, .int qm_from, .int qm_kind, .int qm_number, .int qm_sign, .int qm_fault, .int qm_place, .long qm_word, .int qm_told, .ref qm_now, .ref qm_read, .ref qm_kept, .ref qm_snaps, .ref qm_aside, .ref qm_name, .ref qm_readName, .ref qm_keptName, .ref qm_isKept, .ref qm_onces, .int qm_snapMany, .ref qm_order, .ref qm_ordered, .int qm_orderMany, .int qm_orderMost, .int qm_passing, .int qm_movedWho, .int qm_scratched, .ref qm_text, .int qm_texts, .int qm_seed, .ref qm_line, .ref qm_written, .int qm_lineMany, .int qm_hasWritten, .ref qm_node, .int qm_nodes, .int qm_onesMany, .int qm_within, .int qm_top]))]) C hw iwX11 tyX11_ok nmX11 10 rfl 0 rfl 0 (by decide) kw1193 rfl rfl rfl (Nat.le_of_ble_eq_true rfl) rfl dX11_refuse_2 (fun H locs hw => ?_)
  refine lv_iconst (v := 0) C.1 C.2.1 dX11_refuse_5 (by decide) ?_
  exact x_retiQ hQ B hw ⟨rfl, rfl⟩ (Nat.le_of_ble_eq_true rfl) (Nat.le_of_ble_eq_true rfl) dX11_refuse_6
set_option maxHeartbeats 4000000 in
set_option maxRecDepth 100000 in
theorem s_X11_take {l : Launch} {G : Gc} (qm : Nat) (qm_thrown : Int32) (qm_tape : Nat) (qm_taped : Int32) (qm_size : Int32) (qm_limit : Int32) (qm_to : Int32) (qm_from : Int32) (qm_kind : Int32) (qm_number : Int32) (qm_sign : Int32) (qm_fault : Int32) (qm_place : Int32) (qm_word : Int64) (qm_told : Int32) (qm_now : Nat) (qm_read : Nat) (qm_kept : Nat) (qm_snaps : Nat) (qm_aside : Nat) (qm_name : Nat) (qm_readName : Nat) (qm_keptName : Nat) (qm_isKept : Nat) (qm_onces : Nat) (qm_snapMany : Int32) (qm_order : Nat) (qm_ordered : Nat) (qm_orderMany : Int32) (qm_orderMost : Int32) (qm_passing : Int32) (qm_movedWho : Int32) (qm_scratched : Int32) (qm_text : Nat) (qm_texts : Int32) (qm_seed : Int32) (qm_line : Nat) (qm_written : Nat) (qm_lineMany : Int32) (qm_hasWritten : Int32) (qm_node : Nat) (qm_nodes : Int32) (qm_onesMany : Int32) (qm_within : Int32) (qm_top : Int32) (hi_qm_taped : 0 ≤ qm_taped.toInt ∧ qm_taped.toInt ≤ 940) : Ci l yX11_take cX11_take 2 (some .int) 0 0 0 G [.ref qm] [(qm, .inr (10, [.int qm_thrown, .ref qm_tape, .int qm_taped, .int qm_size, .int qm_limit, .int qm_to, .int qm_from, .int qm_kind, .int qm_number, .int qm_sign, .int qm_fault, .int qm_place, .long qm_word, .int qm_told, .ref qm_now, .ref qm_read, .ref qm_kept, .ref qm_snaps, .ref qm_aside, .ref qm_name, .ref qm_readName, .ref qm_keptName, .ref qm_isKept, .ref qm_onces, .int qm_snapMany, .ref qm_order, .ref qm_ordered, .int qm_orderMany, .int qm_orderMost, .int qm_passing, .int qm_movedWho, .int qm_scratched, .ref qm_text, .int qm_texts, .int qm_seed, .ref qm_line, .ref qm_written, .int qm_lineMany, .int qm_hasWritten, .ref qm_node, .int qm_nodes, .int qm_onesMany, .int qm_within, .int qm_top]))] (fun (r9 : Int32) (u9 : va_W) => r9 = qm_taped ∧ u9 = [(qm, .inr (10, [.int qm_thrown, .ref qm_tape, .int 0, .int qm_size, .int qm_limit, .int qm_to, .int qm_from, .int qm_kind, .int qm_number, .int qm_sign, .int qm_fault, .int qm_place, .long qm_word, .int qm_told, .ref qm_now, .ref qm_read, .ref qm_kept, .ref qm_snaps, .ref qm_aside, .ref qm_name, .ref qm_readName, .ref qm_keptName, .ref qm_isKept, .ref qm_onces, .int qm_snapMany, .ref qm_order, .ref qm_ordered, .int qm_orderMany, .int qm_orderMost, .int qm_passing, .int qm_movedWho, .int qm_scratched, .ref qm_text, .int qm_texts, .int qm_seed, .ref qm_line, .ref qm_written, .int qm_lineMany, .int qm_hasWritten, .ref qm_node, .int qm_nodes, .int qm_onesMany, .int qm_within, .int qm_top]))]) := by
  refine Ci.ofQ (by decide) (Nat.le_of_ble_eq_true rfl) ?_
  intro p e s m below meth c ls A args Q hQ B hw hl
  have C : CallFix p m c cX11_take 2 s args gw "LanternStateModel" := B.1
  have hl : lv_has ls 2 [(0, .ref qm)] := hl
  refine lv_aload_n C.1 C.2.1 dX11_take_0 rfl (lv_at hl 0 rfl) ?_
  refine x_get C hw iwX11 10 rfl 0 rfl 2 (by decide) kw1195 rfl dX11_take_1 ?_
  refine lv_istore_n (lv' := [(1, .int qm_taped), (0, .ref qm)]) C.1 C.2.1 dX11_take_4 rfl hl (by decide) rfl (fun ls hl => ?_)
  refine lv_aload_n C.1 C.2.1 dX11_take_5 rfl (lv_at hl 1 rfl) ?_
  refine lv_iconst (v := 0) C.1 C.2.1 dX11_take_6 (by decide) ?_
  refine x_put (w' := [(qm, .inr (10, [.int qm_thrown, .ref qm_tape, .int 0, .int qm_size, .int qm_limit, .int qm_to, .int qm_from, .int qm_kind, .int qm_number, .int qm_sign, .int qm_fault, .int qm_place, .long qm_word, .int qm_told, .ref qm_now, .ref qm_read, .ref qm_kept, .ref qm_snaps, .ref qm_aside, .ref qm_name, .ref qm_readName, .ref qm_keptName, .ref qm_isKept, .ref qm_onces, .int qm_snapMany, .ref qm_order, .ref qm_ordered, .int qm_orderMany, .int qm_orderMost, .int qm_passing, .int qm_movedWho, .int qm_scratched, .ref qm_text, .int qm_texts, .int qm_seed, .ref qm_line, .ref qm_written, .int qm_lineMany, .int qm_hasWritten, .ref qm_node, .int qm_nodes, .int qm_onesMany, .int qm_within, .int qm_top]))]) C hw iwX11 tyX11_ok nmX11 10 rfl 0 rfl 2 (by decide) kw1195 rfl rfl rfl (Nat.le_of_ble_eq_true rfl) rfl dX11_take_7 (fun H locs hw => ?_)
  refine lv_iload_n C.1 C.2.1 dX11_take_10 rfl (lv_at hl 0 rfl) ?_
  exact x_retiQ hQ B hw ⟨rfl, rfl⟩ (Nat.le_of_ble_eq_true rfl) (Nat.le_of_ble_eq_true rfl) dX11_take_11
set_option maxHeartbeats 4000000 in
set_option maxRecDepth 100000 in
theorem s_X11_isWord {l : Launch} {G : Gc} (qm : Nat) (a1 : Int32) (qm_thrown : Int32) (qm_tape : Nat) (qm_taped : Int32) (qm_size : Int32) (qm_limit : Int32) (qm_to : Int32) (qm_from : Int32) (qm_kind : Int32) (qm_number : Int32) (qm_sign : Int32) (qm_fault : Int32) (qm_place : Int32) (qm_word : Int64) (qm_told : Int32) (qm_now : Nat) (qm_read : Nat) (qm_kept : Nat) (qm_snaps : Nat) (qm_aside : Nat) (qm_name : Nat) (qm_readName : Nat) (qm_keptName : Nat) (qm_isKept : Nat) (qm_onces : Nat) (qm_snapMany : Int32) (qm_order : Nat) (qm_ordered : Nat) (qm_orderMany : Int32) (qm_orderMost : Int32) (qm_passing : Int32) (qm_movedWho : Int32) (qm_scratched : Int32) (qm_text : Nat) (qm_texts : Int32) (qm_seed : Int32) (qm_line : Nat) (qm_written : Nat) (qm_lineMany : Int32) (qm_hasWritten : Int32) (qm_node : Nat) (qm_nodes : Int32) (qm_onesMany : Int32) (qm_within : Int32) (qm_top : Int32)  : Ci l yX11_isWord cX11_isWord 2 (some .boolean) 2 0 0 G [.ref qm, .int a1] [(qm, .inr (10, [.int qm_thrown, .ref qm_tape, .int qm_taped, .int qm_size, .int qm_limit, .int qm_to, .int qm_from, .int qm_kind, .int qm_number, .int qm_sign, .int qm_fault, .int qm_place, .long qm_word, .int qm_told, .ref qm_now, .ref qm_read, .ref qm_kept, .ref qm_snaps, .ref qm_aside, .ref qm_name, .ref qm_readName, .ref qm_keptName, .ref qm_isKept, .ref qm_onces, .int qm_snapMany, .ref qm_order, .ref qm_ordered, .int qm_orderMany, .int qm_orderMost, .int qm_passing, .int qm_movedWho, .int qm_scratched, .ref qm_text, .int qm_texts, .int qm_seed, .ref qm_line, .ref qm_written, .int qm_lineMany, .int qm_hasWritten, .ref qm_node, .int qm_nodes, .int qm_onesMany, .int qm_within, .int qm_top]))] (fun (r9 : Int32) (u9 : va_W) => (r9 = 0 ∧ u9 = [(qm, .inr (10, [.int qm_thrown, .ref qm_tape, .int qm_taped, .int qm_size, .int qm_limit, .int qm_to, .int qm_from, .int qm_kind, .int qm_number, .int qm_sign, .int qm_fault, .int qm_place, .long qm_word, .int qm_told, .ref qm_now, .ref qm_read, .ref qm_kept, .ref qm_snaps, .ref qm_aside, .ref qm_name, .ref qm_readName, .ref qm_keptName, .ref qm_isKept, .ref qm_onces, .int qm_snapMany, .ref qm_order, .ref qm_ordered, .int qm_orderMany, .int qm_orderMost, .int qm_passing, .int qm_movedWho, .int qm_scratched, .ref qm_text, .int qm_texts, .int qm_seed, .ref qm_line, .ref qm_written, .int qm_lineMany, .int qm_hasWritten, .ref qm_node, .int qm_nodes, .int qm_onesMany, .int qm_within, .int qm_top]))]) ∨ (r9 = 1 ∧ u9 = [(qm, .inr (10, [.int qm_thrown, .ref qm_tape, .int qm_taped, .int qm_size, .int qm_limit, .int qm_to, .int qm_from, .int qm_kind, .int qm_number, .int qm_sign, .int qm_fault, .int qm_place, .long qm_word, .int qm_told, .ref qm_now, .ref qm_read, .ref qm_kept, .ref qm_snaps, .ref qm_aside, .ref qm_name, .ref qm_readName, .ref qm_keptName, .ref qm_isKept, .ref qm_onces, .int qm_snapMany, .ref qm_order, .ref qm_ordered, .int qm_orderMany, .int qm_orderMost, .int qm_passing, .int qm_movedWho, .int qm_scratched, .ref qm_text, .int qm_texts, .int qm_seed, .ref qm_line, .ref qm_written, .int qm_lineMany, .int qm_hasWritten, .ref qm_node, .int qm_nodes, .int qm_onesMany, .int qm_within, .int qm_top]))])) := by
  refine Ci.ofQ (by decide) (Nat.le_of_ble_eq_true rfl) ?_
  intro p e s m below meth c ls A args Q hQ B hw hl
  have C : CallFix p m c cX11_isWord 2 s args gw "LanternStateModel" := B.1
  have hl : lv_has ls 2 [(0, .ref qm), (1, .int a1)] := hl
  refine lv_aload_n C.1 C.2.1 dX11_isWord_0 rfl (lv_at hl 0 rfl) ?_
  refine x_get C hw iwX11 10 rfl 0 rfl 7 (by decide) kw1200 rfl dX11_isWord_1 ?_
  refine lv_iconst (v := 2) C.1 C.2.1 dX11_isWord_4 (by decide) ?_
  refine lv_icmp_ne (tgt := 24) C.1 C.2.1 dX11_isWord_5 (by decide) (fun c1 => ?_) (fun c1 => ?_)
  · skip
    have c1 : qm_kind.toInt ≠ 2 := i_eqF (X := qm_kind.toInt) (Y := 2) rfl rfl c1
    have bc1_qm_kind := i_bd qm_kind
    refine lv_iconst (v := 0) C.1 C.2.1 dX11_isWord_24 (by decide) ?_
    exact x_retzQ hQ B hw rfl (Or.inl ⟨rfl, rfl⟩) (Nat.le_of_ble_eq_true rfl) (Nat.le_of_ble_eq_true rfl) dX11_isWord_25
  · skip
    have c1 : qm_kind.toInt = 2 := i_eqT (X := qm_kind.toInt) (Y := 2) rfl rfl c1
    have bc1_qm_kind := i_bd qm_kind
    refine lv_aload_n C.1 C.2.1 dX11_isWord_8 rfl (lv_at hl 0 rfl) ?_
    refine x_get C hw iwX11 10 rfl 0 rfl 12 (by decide) kw1205 rfl dX11_isWord_9 ?_
    refine lv_iload_n C.1 C.2.1 dX11_isWord_12 rfl (lv_at hl 1 rfl) ?_
    refine x_calllS (As := [.int a1]) (rest := [.long qm_word]) (wr := [(qm, .inr (10, [.int qm_thrown, .ref qm_tape, .int qm_taped, .int qm_size, .int qm_limit, .int qm_to, .int qm_from, .int qm_kind, .int qm_number, .int qm_sign, .int qm_fault, .int qm_place, .long qm_word, .int qm_told, .ref qm_now, .ref qm_read, .ref qm_kept, .ref qm_snaps, .ref qm_aside, .ref qm_name, .ref qm_readName, .ref qm_keptName, .ref qm_isKept, .ref qm_onces, .int qm_snapMany, .ref qm_order, .ref qm_ordered, .int qm_orderMany, .int qm_orderMost, .int qm_passing, .int qm_movedWho, .int qm_scratched, .ref qm_text, .int qm_texts, .int qm_seed, .ref qm_line, .ref qm_written, .int qm_lineMany, .int qm_hasWritten, .ref qm_node, .int qm_nodes, .int qm_onesMany, .int qm_within, .int qm_top]))]) C hw (s_X11_wordOf a1) mwX11_wordOf kw1363 [] [0] rfl rfl rfl rfl (by decide) rfl hl.1 rfl (Nat.le_of_ble_eq_true rfl) ⟨(Nat.le_of_ble_eq_true rfl), (Nat.le_of_ble_eq_true rfl)⟩ ⟨(Nat.le_of_ble_eq_true rfl), (Nat.le_of_ble_eq_true rfl)⟩ dX11_isWord_13 (fun r2 u9 H locs hp9 hw => ?_)
    obtain ⟨x3, rfl, rfl⟩ := hp9
    have hw : Wd G s A [(qm, .inr (10, [.int qm_thrown, .ref qm_tape, .int qm_taped, .int qm_size, .int qm_limit, .int qm_to, .int qm_from, .int qm_kind, .int qm_number, .int qm_sign, .int qm_fault, .int qm_place, .long qm_word, .int qm_told, .ref qm_now, .ref qm_read, .ref qm_kept, .ref qm_snaps, .ref qm_aside, .ref qm_name, .ref qm_readName, .ref qm_keptName, .ref qm_isKept, .ref qm_onces, .int qm_snapMany, .ref qm_order, .ref qm_ordered, .int qm_orderMany, .int qm_orderMost, .int qm_passing, .int qm_movedWho, .int qm_scratched, .ref qm_text, .int qm_texts, .int qm_seed, .ref qm_line, .ref qm_written, .int qm_lineMany, .int qm_hasWritten, .ref qm_node, .int qm_nodes, .int qm_onesMany, .int qm_within, .int qm_top]))] H _ := hw
    refine W.lcmp C.1 C.2.1 dX11_isWord_16 (x_gen (fun v4 => ?_))
    refine lv_if_ne (tgt := 24) C.1 C.2.1 dX11_isWord_17 (by decide) (fun c5 => ?_) (fun c5 => ?_)
    · skip
      have c5 : v4.toInt ≠ 0 := i_eqF (X := v4.toInt) (Y := 0) rfl rfl c5
      have bc5_v4 := i_bd v4
      refine lv_iconst (v := 0) C.1 C.2.1 dX11_isWord_24 (by decide) ?_
      exact x_retzQ hQ B hw rfl (Or.inl ⟨rfl, rfl⟩) (Nat.le_of_ble_eq_true rfl) (Nat.le_of_ble_eq_true rfl) dX11_isWord_25
    · skip
      have c5 : v4.toInt = 0 := i_eqT (X := v4.toInt) (Y := 0) rfl rfl c5
      have bc5_v4 := i_bd v4
      refine lv_iconst (v := 1) C.1 C.2.1 dX11_isWord_20 (by decide) ?_
      refine lv_goto (tgt := 25) C.1 C.2.1 dX11_isWord_21 (by decide) ?_
      exact x_retzQ hQ B hw rfl (Or.inr ⟨rfl, rfl⟩) (Nat.le_of_ble_eq_true rfl) (Nat.le_of_ble_eq_true rfl) dX11_isWord_25
set_option maxHeartbeats 4000000 in
set_option maxRecDepth 100000 in
theorem s_X11_isSign {l : Launch} {G : Gc} (qm : Nat) (a1 : Int32) (qm_thrown : Int32) (qm_tape : Nat) (qm_taped : Int32) (qm_size : Int32) (qm_limit : Int32) (qm_to : Int32) (qm_from : Int32) (qm_kind : Int32) (qm_number : Int32) (qm_sign : Int32) (qm_fault : Int32) (qm_place : Int32) (qm_word : Int64) (qm_told : Int32) (qm_now : Nat) (qm_read : Nat) (qm_kept : Nat) (qm_snaps : Nat) (qm_aside : Nat) (qm_name : Nat) (qm_readName : Nat) (qm_keptName : Nat) (qm_isKept : Nat) (qm_onces : Nat) (qm_snapMany : Int32) (qm_order : Nat) (qm_ordered : Nat) (qm_orderMany : Int32) (qm_orderMost : Int32) (qm_passing : Int32) (qm_movedWho : Int32) (qm_scratched : Int32) (qm_text : Nat) (qm_texts : Int32) (qm_seed : Int32) (qm_line : Nat) (qm_written : Nat) (qm_lineMany : Int32) (qm_hasWritten : Int32) (qm_node : Nat) (qm_nodes : Int32) (qm_onesMany : Int32) (qm_within : Int32) (qm_top : Int32)  : Ci l yX11_isSign cX11_isSign 2 (some .boolean) 0 0 0 G [.ref qm, .int a1] [(qm, .inr (10, [.int qm_thrown, .ref qm_tape, .int qm_taped, .int qm_size, .int qm_limit, .int qm_to, .int qm_from, .int qm_kind, .int qm_number, .int qm_sign, .int qm_fault, .int qm_place, .long qm_word, .int qm_told, .ref qm_now, .ref qm_read, .ref qm_kept, .ref qm_snaps, .ref qm_aside, .ref qm_name, .ref qm_readName, .ref qm_keptName, .ref qm_isKept, .ref qm_onces, .int qm_snapMany, .ref qm_order, .ref qm_ordered, .int qm_orderMany, .int qm_orderMost, .int qm_passing, .int qm_movedWho, .int qm_scratched, .ref qm_text, .int qm_texts, .int qm_seed, .ref qm_line, .ref qm_written, .int qm_lineMany, .int qm_hasWritten, .ref qm_node, .int qm_nodes, .int qm_onesMany, .int qm_within, .int qm_top]))] (fun (r9 : Int32) (u9 : va_W) => (r9 = 0 ∧ u9 = [(qm, .inr (10, [.int qm_thrown, .ref qm_tape, .int qm_taped, .int qm_size, .int qm_limit, .int qm_to, .int qm_from, .int qm_kind, .int qm_number, .int qm_sign, .int qm_fault, .int qm_place, .long qm_word, .int qm_told, .ref qm_now, .ref qm_read, .ref qm_kept, .ref qm_snaps, .ref qm_aside, .ref qm_name, .ref qm_readName, .ref qm_keptName, .ref qm_isKept, .ref qm_onces, .int qm_snapMany, .ref qm_order, .ref qm_ordered, .int qm_orderMany, .int qm_orderMost, .int qm_passing, .int qm_movedWho, .int qm_scratched, .ref qm_text, .int qm_texts, .int qm_seed, .ref qm_line, .ref qm_written, .int qm_lineMany, .int qm_hasWritten, .ref qm_node, .int qm_nodes, .int qm_onesMany, .int qm_within, .int qm_top]))]) ∨ (r9 = 1 ∧ u9 = [(qm, .inr (10, [.int qm_thrown, .ref qm_tape, .int qm_taped, .int qm_size, .int qm_limit, .int qm_to, .int qm_from, .int qm_kind, .int qm_number, .int qm_sign, .int qm_fault, .int qm_place, .long qm_word, .int qm_told, .ref qm_now, .ref qm_read, .ref qm_kept, .ref qm_snaps, .ref qm_aside, .ref qm_name, .ref qm_readName, .ref qm_keptName, .ref qm_isKept, .ref qm_onces, .int qm_snapMany, .ref qm_order, .ref qm_ordered, .int qm_orderMany, .int qm_orderMost, .int qm_passing, .int qm_movedWho, .int qm_scratched, .ref qm_text, .int qm_texts, .int qm_seed, .ref qm_line, .ref qm_written, .int qm_lineMany, .int qm_hasWritten, .ref qm_node, .int qm_nodes, .int qm_onesMany, .int qm_within, .int qm_top]))] ∧ (qm_kind.toInt = 4))) := by
  refine Ci.ofQ (by decide) (Nat.le_of_ble_eq_true rfl) ?_
  intro p e s m below meth c ls A args Q hQ B hw hl
  have C : CallFix p m c cX11_isSign 2 s args gw "LanternStateModel" := B.1
  have hl : lv_has ls 2 [(0, .ref qm), (1, .int a1)] := hl
  refine lv_aload_n C.1 C.2.1 dX11_isSign_0 rfl (lv_at hl 0 rfl) ?_
  refine x_get C hw iwX11 10 rfl 0 rfl 7 (by decide) kw1200 rfl dX11_isSign_1 ?_
  refine lv_iconst (v := 4) C.1 C.2.1 dX11_isSign_4 (by decide) ?_
  refine lv_icmp_ne (tgt := 20) C.1 C.2.1 dX11_isSign_5 (by decide) (fun c1 => ?_) (fun c1 => ?_)
  · skip
    have c1 : qm_kind.toInt ≠ 4 := i_eqF (X := qm_kind.toInt) (Y := 4) rfl rfl c1
    have bc1_qm_kind := i_bd qm_kind
    refine lv_iconst (v := 0) C.1 C.2.1 dX11_isSign_20 (by decide) ?_
    exact x_retzQ hQ B hw rfl (Or.inl ⟨rfl, rfl⟩) (Nat.le_of_ble_eq_true rfl) (Nat.le_of_ble_eq_true rfl) dX11_isSign_21
  · skip
    have c1 : qm_kind.toInt = 4 := i_eqT (X := qm_kind.toInt) (Y := 4) rfl rfl c1
    have bc1_qm_kind := i_bd qm_kind
    refine lv_aload_n C.1 C.2.1 dX11_isSign_8 rfl (lv_at hl 0 rfl) ?_
    refine x_get C hw iwX11 10 rfl 0 rfl 9 (by decide) kw1202 rfl dX11_isSign_9 ?_
    refine lv_iload_n C.1 C.2.1 dX11_isSign_12 rfl (lv_at hl 1 rfl) ?_
    refine lv_icmp_ne (tgt := 20) C.1 C.2.1 dX11_isSign_13 (by decide) (fun c2 => ?_) (fun c2 => ?_)
    · skip
      have c2 : qm_sign.toInt ≠ a1.toInt := i_eqF (X := qm_sign.toInt) (Y := a1.toInt) rfl rfl c2
      have bc2_qm_sign := i_bd qm_sign
      have bc2_a1 := i_bd a1
      refine lv_iconst (v := 0) C.1 C.2.1 dX11_isSign_20 (by decide) ?_
      exact x_retzQ hQ B hw rfl (Or.inl ⟨rfl, rfl⟩) (Nat.le_of_ble_eq_true rfl) (Nat.le_of_ble_eq_true rfl) dX11_isSign_21
    · skip
      have c2 : qm_sign.toInt = a1.toInt := i_eqT (X := qm_sign.toInt) (Y := a1.toInt) rfl rfl c2
      have bc2_qm_sign := i_bd qm_sign
      have bc2_a1 := i_bd a1
      refine lv_iconst (v := 1) C.1 C.2.1 dX11_isSign_16 (by decide) ?_
      refine lv_goto (tgt := 21) C.1 C.2.1 dX11_isSign_17 (by decide) ?_
      exact x_retzQ hQ B hw rfl (Or.inr ⟨rfl, rfl, (by omega)⟩) (Nat.le_of_ble_eq_true rfl) (Nat.le_of_ble_eq_true rfl) dX11_isSign_21
set_option maxHeartbeats 4000000 in
set_option maxRecDepth 100000 in
theorem s_X11_isName {l : Launch} {G : Gc} (qm : Nat) (qm_thrown : Int32) (qm_tape : Nat) (qm_taped : Int32) (qm_size : Int32) (qm_limit : Int32) (qm_to : Int32) (qm_from : Int32) (qm_kind : Int32) (qm_number : Int32) (qm_sign : Int32) (qm_fault : Int32) (qm_place : Int32) (qm_word : Int64) (qm_told : Int32) (qm_now : Nat) (qm_read : Nat) (qm_kept : Nat) (qm_snaps : Nat) (qm_aside : Nat) (qm_name : Nat) (qm_readName : Nat) (qm_keptName : Nat) (qm_isKept : Nat) (qm_onces : Nat) (qm_snapMany : Int32) (qm_order : Nat) (qm_ordered : Nat) (qm_orderMany : Int32) (qm_orderMost : Int32) (qm_passing : Int32) (qm_movedWho : Int32) (qm_scratched : Int32) (qm_text : Nat) (qm_texts : Int32) (qm_seed : Int32) (qm_line : Nat) (qm_written : Nat) (qm_lineMany : Int32) (qm_hasWritten : Int32) (qm_node : Nat) (qm_nodes : Int32) (qm_onesMany : Int32) (qm_within : Int32) (qm_top : Int32)  : Ci l yX11_isName cX11_isName 2 (some .boolean) 2 0 0 G [.ref qm] [(qm, .inr (10, [.int qm_thrown, .ref qm_tape, .int qm_taped, .int qm_size, .int qm_limit, .int qm_to, .int qm_from, .int qm_kind, .int qm_number, .int qm_sign, .int qm_fault, .int qm_place, .long qm_word, .int qm_told, .ref qm_now, .ref qm_read, .ref qm_kept, .ref qm_snaps, .ref qm_aside, .ref qm_name, .ref qm_readName, .ref qm_keptName, .ref qm_isKept, .ref qm_onces, .int qm_snapMany, .ref qm_order, .ref qm_ordered, .int qm_orderMany, .int qm_orderMost, .int qm_passing, .int qm_movedWho, .int qm_scratched, .ref qm_text, .int qm_texts, .int qm_seed, .ref qm_line, .ref qm_written, .int qm_lineMany, .int qm_hasWritten, .ref qm_node, .int qm_nodes, .int qm_onesMany, .int qm_within, .int qm_top]))] (fun (r9 : Int32) (u9 : va_W) => (r9 = 0 ∧ u9 = [(qm, .inr (10, [.int qm_thrown, .ref qm_tape, .int qm_taped, .int qm_size, .int qm_limit, .int qm_to, .int qm_from, .int qm_kind, .int qm_number, .int qm_sign, .int qm_fault, .int qm_place, .long qm_word, .int qm_told, .ref qm_now, .ref qm_read, .ref qm_kept, .ref qm_snaps, .ref qm_aside, .ref qm_name, .ref qm_readName, .ref qm_keptName, .ref qm_isKept, .ref qm_onces, .int qm_snapMany, .ref qm_order, .ref qm_ordered, .int qm_orderMany, .int qm_orderMost, .int qm_passing, .int qm_movedWho, .int qm_scratched, .ref qm_text, .int qm_texts, .int qm_seed, .ref qm_line, .ref qm_written, .int qm_lineMany, .int qm_hasWritten, .ref qm_node, .int qm_nodes, .int qm_onesMany, .int qm_within, .int qm_top]))]) ∨ (r9 = 1 ∧ u9 = [(qm, .inr (10, [.int qm_thrown, .ref qm_tape, .int qm_taped, .int qm_size, .int qm_limit, .int qm_to, .int qm_from, .int qm_kind, .int qm_number, .int qm_sign, .int qm_fault, .int qm_place, .long qm_word, .int qm_told, .ref qm_now, .ref qm_read, .ref qm_kept, .ref qm_snaps, .ref qm_aside, .ref qm_name, .ref qm_readName, .ref qm_keptName, .ref qm_isKept, .ref qm_onces, .int qm_snapMany, .ref qm_order, .ref qm_ordered, .int qm_orderMany, .int qm_orderMost, .int qm_passing, .int qm_movedWho, .int qm_scratched, .ref qm_text, .int qm_texts, .int qm_seed, .ref qm_line, .ref qm_written, .int qm_lineMany, .int qm_hasWritten, .ref qm_node, .int qm_nodes, .int qm_onesMany, .int qm_within, .int qm_top]))])) := by
  refine Ci.ofQ (by decide) (Nat.le_of_ble_eq_true rfl) ?_
  intro p e s m below meth c ls A args Q hQ B hw hl
  have C : CallFix p m c cX11_isName 2 s args gw "LanternStateModel" := B.1
  have hl : lv_has ls 2 [(0, .ref qm)] := hl
  refine lv_aload_n C.1 C.2.1 dX11_isName_0 rfl (lv_at hl 0 rfl) ?_
  refine x_get C hw iwX11 10 rfl 0 rfl 7 (by decide) kw1200 rfl dX11_isName_1 ?_
  refine lv_iconst (v := 2) C.1 C.2.1 dX11_isName_4 (by decide) ?_
  refine lv_icmp_eq (tgt := 10) C.1 C.2.1 dX11_isName_5 (by decide) (fun c1 => ?_) (fun c1 => ?_)
  · skip
    have c1 : qm_kind.toInt = 2 := i_eqT (X := qm_kind.toInt) (Y := 2) rfl rfl c1
    have bc1_qm_kind := i_bd qm_kind
    refine lv_iconst (v := 0) C.1 C.2.1 dX11_isName_10 (by decide) ?_
    refine lv_istore_n (lv' := [(1, .int 0), (0, .ref qm)]) C.1 C.2.1 dX11_isName_11 rfl hl (by decide) rfl (fun ls hl => ?_)
    have loopJ122 : ∀ (n9 : Nat) (j121 : Int32), (2147483647 - j121.toInt).toNat < n9 → (0 ≤ j121.toInt ∧ j121.toInt ≤ 27) → ∀ (H : Heap) (locs : List Loc) (ls : Array Slot), Wd G s A [(qm, .inr (10, [.int qm_thrown, .ref qm_tape, .int qm_taped, .int qm_size, .int qm_limit, .int qm_to, .int qm_from, .int qm_kind, .int qm_number, .int qm_sign, .int qm_fault, .int qm_place, .long qm_word, .int qm_told, .ref qm_now, .ref qm_read, .ref qm_kept, .ref qm_snaps, .ref qm_aside, .ref qm_name, .ref qm_readName, .ref qm_keptName, .ref qm_isKept, .ref qm_onces, .int qm_snapMany, .ref qm_order, .ref qm_ordered, .int qm_orderMany, .int qm_orderMost, .int qm_passing, .int qm_movedWho, .int qm_scratched, .ref qm_text, .int qm_texts, .int qm_seed, .ref qm_line, .ref qm_written, .int qm_lineMany, .int qm_hasWritten, .ref qm_node, .int qm_nodes, .int qm_onesMany, .int qm_within, .int qm_top]))] H locs → lv_has ls 2 [(1, .int j121), (0, .ref qm)] → W p l e (rmD 2 0 0) s m args below meth c H locs 0 0 Q (F0 m 12 ls []) := by
      intro n9
      induction n9 with
      | zero => intro j121 h9; exact absurd h9 (Nat.not_lt_zero _)
      | succ n9 ihJ122 =>
        intro j121 h9J122 hJ122_0 H locs ls hw hl
        have hbj121 := i_bd j121
        refine lv_iload_n C.1 C.2.1 dX11_isName_12 rfl (lv_at hl 0 rfl) ?_
        refine lv_bipush (v := 26) C.1 C.2.1 dX11_isName_13 (by decide) ?_
        refine lv_icmp_gt (tgt := 38) C.1 C.2.1 dX11_isName_15 (by decide) (fun c129 => ?_) (fun c129 => ?_)
        · skip
          have c129 : 26 < j121.toInt := i_ltT (X := 26) (Y := j121.toInt) rfl rfl c129
          refine lv_iconst (v := 1) C.1 C.2.1 dX11_isName_38 (by decide) ?_
          exact x_retzQ hQ B hw rfl (Or.inr ⟨rfl, rfl⟩) (Nat.le_of_ble_eq_true rfl) (Nat.le_of_ble_eq_true rfl) dX11_isName_39
        · skip
          have c129 : j121.toInt ≤ 26 := i_ltF (X := 26) (Y := j121.toInt) rfl rfl c129
          refine lv_aload_n C.1 C.2.1 dX11_isName_18 rfl (lv_at hl 1 rfl) ?_
          refine x_get C hw iwX11 10 rfl 0 rfl 12 (by decide) kw1205 rfl dX11_isName_19 ?_
          refine lv_iload_n C.1 C.2.1 dX11_isName_22 rfl (lv_at hl 0 rfl) ?_
          refine x_calllS (As := [.int j121]) (rest := [.long qm_word]) (wr := [(qm, .inr (10, [.int qm_thrown, .ref qm_tape, .int qm_taped, .int qm_size, .int qm_limit, .int qm_to, .int qm_from, .int qm_kind, .int qm_number, .int qm_sign, .int qm_fault, .int qm_place, .long qm_word, .int qm_told, .ref qm_now, .ref qm_read, .ref qm_kept, .ref qm_snaps, .ref qm_aside, .ref qm_name, .ref qm_readName, .ref qm_keptName, .ref qm_isKept, .ref qm_onces, .int qm_snapMany, .ref qm_order, .ref qm_ordered, .int qm_orderMany, .int qm_orderMost, .int qm_passing, .int qm_movedWho, .int qm_scratched, .ref qm_text, .int qm_texts, .int qm_seed, .ref qm_line, .ref qm_written, .int qm_lineMany, .int qm_hasWritten, .ref qm_node, .int qm_nodes, .int qm_onesMany, .int qm_within, .int qm_top]))]) C hw (s_X11_wordOf j121) mwX11_wordOf kw1363 [] [0] rfl rfl rfl rfl (by decide) rfl hl.1 rfl (Nat.le_of_ble_eq_true rfl) ⟨(Nat.le_of_ble_eq_true rfl), (Nat.le_of_ble_eq_true rfl)⟩ ⟨(Nat.le_of_ble_eq_true rfl), (Nat.le_of_ble_eq_true rfl)⟩ dX11_isName_23 (fun r130 u9 H locs hp9 hw => ?_)
          obtain ⟨x131, rfl, rfl⟩ := hp9
          have hw : Wd G s A [(qm, .inr (10, [.int qm_thrown, .ref qm_tape, .int qm_taped, .int qm_size, .int qm_limit, .int qm_to, .int qm_from, .int qm_kind, .int qm_number, .int qm_sign, .int qm_fault, .int qm_place, .long qm_word, .int qm_told, .ref qm_now, .ref qm_read, .ref qm_kept, .ref qm_snaps, .ref qm_aside, .ref qm_name, .ref qm_readName, .ref qm_keptName, .ref qm_isKept, .ref qm_onces, .int qm_snapMany, .ref qm_order, .ref qm_ordered, .int qm_orderMany, .int qm_orderMost, .int qm_passing, .int qm_movedWho, .int qm_scratched, .ref qm_text, .int qm_texts, .int qm_seed, .ref qm_line, .ref qm_written, .int qm_lineMany, .int qm_hasWritten, .ref qm_node, .int qm_nodes, .int qm_onesMany, .int qm_within, .int qm_top]))] H _ := hw
          refine W.lcmp C.1 C.2.1 dX11_isName_26 (x_gen (fun v132 => ?_))
          refine lv_if_ne (tgt := 32) C.1 C.2.1 dX11_isName_27 (by decide) (fun c133 => ?_) (fun c133 => ?_)
          · skip
            have c133 : v132.toInt ≠ 0 := i_eqF (X := v132.toInt) (Y := 0) rfl rfl c133
            have bc133_v132 := i_bd v132
            obtain ⟨v134, ev134⟩ : ∃ z : Int32, j121 + 1 = z := ⟨_, rfl⟩
            have hv134 : v134.toInt = j121.toInt + 1 := by rw [← ev134]; exact i_add rfl rfl (by omega) (by omega)
            refine lv_iinc (v := v134) (lv' := [(1, .int v134), (0, .ref qm)]) C.1 C.2.1 dX11_isName_32 hl (k := 0) rfl ev134 (by decide) rfl (fun ls hl => ?_)
            refine lv_goto (tgt := 12) C.1 C.2.1 dX11_isName_35 (by decide) ?_
            exact ihJ122 v134 (by omega) (by omega) _ _ _ hw (lv_sub hl [0, 1] rfl)
          · skip
            have c133 : v132.toInt = 0 := i_eqT (X := v132.toInt) (Y := 0) rfl rfl c133
            have bc133_v132 := i_bd v132
            refine lv_iconst (v := 0) C.1 C.2.1 dX11_isName_30 (by decide) ?_
            exact x_retzQ hQ B hw rfl (Or.inl ⟨rfl, rfl⟩) (Nat.le_of_ble_eq_true rfl) (Nat.le_of_ble_eq_true rfl) dX11_isName_31
    exact loopJ122 _ 0 (Nat.lt_succ_self _) (by decide) _ _ _ hw (lv_sub hl [0, 1] rfl)
  · skip
    have c1 : qm_kind.toInt ≠ 2 := i_eqF (X := qm_kind.toInt) (Y := 2) rfl rfl c1
    have bc1_qm_kind := i_bd qm_kind
    refine lv_iconst (v := 0) C.1 C.2.1 dX11_isName_8 (by decide) ?_
    exact x_retzQ hQ B hw rfl (Or.inl ⟨rfl, rfl⟩) (Nat.le_of_ble_eq_true rfl) (Nat.le_of_ble_eq_true rfl) dX11_isName_9
set_option maxHeartbeats 4000000 in
set_option maxRecDepth 100000 in
theorem s_X11_bad {l : Launch} {G : Gc} (qm : Nat) (a1 : Int32) (qm_thrown : Int32) (qm_tape : Nat) (qm_taped : Int32) (qm_size : Int32) (qm_limit : Int32) (qm_to : Int32) (qm_from : Int32) (qm_kind : Int32) (qm_number : Int32) (qm_sign : Int32) (qm_fault : Int32) (qm_place : Int32) (qm_word : Int64) (qm_told : Int32) (qm_now : Nat) (qm_read : Nat) (qm_kept : Nat) (qm_snaps : Nat) (qm_aside : Nat) (qm_name : Nat) (qm_readName : Nat) (qm_keptName : Nat) (qm_isKept : Nat) (qm_onces : Nat) (qm_snapMany : Int32) (qm_order : Nat) (qm_ordered : Nat) (qm_orderMany : Int32) (qm_orderMost : Int32) (qm_passing : Int32) (qm_movedWho : Int32) (qm_scratched : Int32) (qm_text : Nat) (qm_texts : Int32) (qm_seed : Int32) (qm_line : Nat) (qm_written : Nat) (qm_lineMany : Int32) (qm_hasWritten : Int32) (qm_node : Nat) (qm_nodes : Int32) (qm_onesMany : Int32) (qm_within : Int32) (qm_top : Int32)  : Ci l yX11_bad cX11_bad 2 (some .boolean) 0 0 0 G [.ref qm, .int a1] [(qm, .inr (10, [.int qm_thrown, .ref qm_tape, .int qm_taped, .int qm_size, .int qm_limit, .int qm_to, .int qm_from, .int qm_kind, .int qm_number, .int qm_sign, .int qm_fault, .int qm_place, .long qm_word, .int qm_told, .ref qm_now, .ref qm_read, .ref qm_kept, .ref qm_snaps, .ref qm_aside, .ref qm_name, .ref qm_readName, .ref qm_keptName, .ref qm_isKept, .ref qm_onces, .int qm_snapMany, .ref qm_order, .ref qm_ordered, .int qm_orderMany, .int qm_orderMost, .int qm_passing, .int qm_movedWho, .int qm_scratched, .ref qm_text, .int qm_texts, .int qm_seed, .ref qm_line, .ref qm_written, .int qm_lineMany, .int qm_hasWritten, .ref qm_node, .int qm_nodes, .int qm_onesMany, .int qm_within, .int qm_top]))] (fun (r9 : Int32) (u9 : va_W) => ∃ (x0_qm_fault : Int32), r9 = 0 ∧ u9 = [(qm, .inr (10, [.int qm_thrown, .ref qm_tape, .int qm_taped, .int qm_size, .int qm_limit, .int qm_to, .int qm_from, .int qm_kind, .int qm_number, .int qm_sign, .int x0_qm_fault, .int qm_from, .long qm_word, .int qm_told, .ref qm_now, .ref qm_read, .ref qm_kept, .ref qm_snaps, .ref qm_aside, .ref qm_name, .ref qm_readName, .ref qm_keptName, .ref qm_isKept, .ref qm_onces, .int qm_snapMany, .ref qm_order, .ref qm_ordered, .int qm_orderMany, .int qm_orderMost, .int qm_passing, .int qm_movedWho, .int qm_scratched, .ref qm_text, .int qm_texts, .int qm_seed, .ref qm_line, .ref qm_written, .int qm_lineMany, .int qm_hasWritten, .ref qm_node, .int qm_nodes, .int qm_onesMany, .int qm_within, .int qm_top]))]) := by
  refine Ci.ofQ (by decide) (Nat.le_of_ble_eq_true rfl) ?_
  intro p e s m below meth c ls A args Q hQ B hw hl
  have C : CallFix p m c cX11_bad 2 s args gw "LanternStateModel" := B.1
  have hl : lv_has ls 2 [(0, .ref qm), (1, .int a1)] := hl
  refine lv_aload_n C.1 C.2.1 dX11_bad_0 rfl (lv_at hl 0 rfl) ?_
  refine lv_aload_n C.1 C.2.1 dX11_bad_1 rfl (lv_at hl 0 rfl) ?_
  refine x_get C hw iwX11 10 rfl 0 rfl 7 (by decide) kw1200 rfl dX11_bad_2 ?_
  refine lv_iconst (v := 1) C.1 C.2.1 dX11_bad_5 (by decide) ?_
  refine lv_icmp_ne (tgt := 13) C.1 C.2.1 dX11_bad_6 (by decide) (fun c1 => ?_) (fun c1 => ?_)
  · skip
    have c1 : qm_kind.toInt ≠ 1 := i_eqF (X := qm_kind.toInt) (Y := 1) rfl rfl c1
    have bc1_qm_kind := i_bd qm_kind
    refine lv_iload_n C.1 C.2.1 dX11_bad_13 rfl (lv_at hl 1 rfl) ?_
    refine x_put (w' := [(qm, .inr (10, [.int qm_thrown, .ref qm_tape, .int qm_taped, .int qm_size, .int qm_limit, .int qm_to, .int qm_from, .int qm_kind, .int qm_number, .int qm_sign, .int a1, .int qm_place, .long qm_word, .int qm_told, .ref qm_now, .ref qm_read, .ref qm_kept, .ref qm_snaps, .ref qm_aside, .ref qm_name, .ref qm_readName, .ref qm_keptName, .ref qm_isKept, .ref qm_onces, .int qm_snapMany, .ref qm_order, .ref qm_ordered, .int qm_orderMany, .int qm_orderMost, .int qm_passing, .int qm_movedWho, .int qm_scratched, .ref qm_text, .int qm_texts, .int qm_seed, .ref qm_line, .ref qm_written, .int qm_lineMany, .int qm_hasWritten, .ref qm_node, .int qm_nodes, .int qm_onesMany, .int qm_within, .int qm_top]))]) C hw iwX11 tyX11_ok nmX11 10 rfl 0 rfl 10 (by decide) kw1203 rfl rfl rfl (Nat.le_of_ble_eq_true rfl) rfl dX11_bad_14 (fun H locs hw => ?_)
    refine lv_aload_n C.1 C.2.1 dX11_bad_17 rfl (lv_at hl 0 rfl) ?_
    refine lv_aload_n C.1 C.2.1 dX11_bad_18 rfl (lv_at hl 0 rfl) ?_
    refine x_get C hw iwX11 10 rfl 0 rfl 6 (by decide) kw1199 rfl dX11_bad_19 ?_
    refine x_put (w' := [(qm, .inr (10, [.int qm_thrown, .ref qm_tape, .int qm_taped, .int qm_size, .int qm_limit, .int qm_to, .int qm_from, .int qm_kind, .int qm_number, .int qm_sign, .int a1, .int qm_from, .long qm_word, .int qm_told, .ref qm_now, .ref qm_read, .ref qm_kept, .ref qm_snaps, .ref qm_aside, .ref qm_name, .ref qm_readName, .ref qm_keptName, .ref qm_isKept, .ref qm_onces, .int qm_snapMany, .ref qm_order, .ref qm_ordered, .int qm_orderMany, .int qm_orderMost, .int qm_passing, .int qm_movedWho, .int qm_scratched, .ref qm_text, .int qm_texts, .int qm_seed, .ref qm_line, .ref qm_written, .int qm_lineMany, .int qm_hasWritten, .ref qm_node, .int qm_nodes, .int qm_onesMany, .int qm_within, .int qm_top]))]) C hw iwX11 tyX11_ok nmX11 10 rfl 0 rfl 11 (by decide) kw1204 rfl rfl rfl (Nat.le_of_ble_eq_true rfl) rfl dX11_bad_22 (fun H locs hw => ?_)
    refine lv_iconst (v := 0) C.1 C.2.1 dX11_bad_25 (by decide) ?_
    exact x_retzQ hQ B hw rfl ⟨a1, rfl, rfl⟩ (Nat.le_of_ble_eq_true rfl) (Nat.le_of_ble_eq_true rfl) dX11_bad_26
  · skip
    have c1 : qm_kind.toInt = 1 := i_eqT (X := qm_kind.toInt) (Y := 1) rfl rfl c1
    have bc1_qm_kind := i_bd qm_kind
    refine lv_iconst (v := 1) C.1 C.2.1 dX11_bad_9 (by decide) ?_
    refine lv_goto (tgt := 14) C.1 C.2.1 dX11_bad_10 (by decide) ?_
    refine x_put (w' := [(qm, .inr (10, [.int qm_thrown, .ref qm_tape, .int qm_taped, .int qm_size, .int qm_limit, .int qm_to, .int qm_from, .int qm_kind, .int qm_number, .int qm_sign, .int 1, .int qm_place, .long qm_word, .int qm_told, .ref qm_now, .ref qm_read, .ref qm_kept, .ref qm_snaps, .ref qm_aside, .ref qm_name, .ref qm_readName, .ref qm_keptName, .ref qm_isKept, .ref qm_onces, .int qm_snapMany, .ref qm_order, .ref qm_ordered, .int qm_orderMany, .int qm_orderMost, .int qm_passing, .int qm_movedWho, .int qm_scratched, .ref qm_text, .int qm_texts, .int qm_seed, .ref qm_line, .ref qm_written, .int qm_lineMany, .int qm_hasWritten, .ref qm_node, .int qm_nodes, .int qm_onesMany, .int qm_within, .int qm_top]))]) C hw iwX11 tyX11_ok nmX11 10 rfl 0 rfl 10 (by decide) kw1203 rfl rfl rfl (Nat.le_of_ble_eq_true rfl) rfl dX11_bad_14 (fun H locs hw => ?_)
    refine lv_aload_n C.1 C.2.1 dX11_bad_17 rfl (lv_at hl 0 rfl) ?_
    refine lv_aload_n C.1 C.2.1 dX11_bad_18 rfl (lv_at hl 0 rfl) ?_
    refine x_get C hw iwX11 10 rfl 0 rfl 6 (by decide) kw1199 rfl dX11_bad_19 ?_
    refine x_put (w' := [(qm, .inr (10, [.int qm_thrown, .ref qm_tape, .int qm_taped, .int qm_size, .int qm_limit, .int qm_to, .int qm_from, .int qm_kind, .int qm_number, .int qm_sign, .int 1, .int qm_from, .long qm_word, .int qm_told, .ref qm_now, .ref qm_read, .ref qm_kept, .ref qm_snaps, .ref qm_aside, .ref qm_name, .ref qm_readName, .ref qm_keptName, .ref qm_isKept, .ref qm_onces, .int qm_snapMany, .ref qm_order, .ref qm_ordered, .int qm_orderMany, .int qm_orderMost, .int qm_passing, .int qm_movedWho, .int qm_scratched, .ref qm_text, .int qm_texts, .int qm_seed, .ref qm_line, .ref qm_written, .int qm_lineMany, .int qm_hasWritten, .ref qm_node, .int qm_nodes, .int qm_onesMany, .int qm_within, .int qm_top]))]) C hw iwX11 tyX11_ok nmX11 10 rfl 0 rfl 11 (by decide) kw1204 rfl rfl rfl (Nat.le_of_ble_eq_true rfl) rfl dX11_bad_22 (fun H locs hw => ?_)
    refine lv_iconst (v := 0) C.1 C.2.1 dX11_bad_25 (by decide) ?_
    exact x_retzQ hQ B hw rfl ⟨1, rfl, rfl⟩ (Nat.le_of_ble_eq_true rfl) (Nat.le_of_ble_eq_true rfl) dX11_bad_26
set_option maxHeartbeats 4000000 in
set_option maxRecDepth 100000 in
theorem s_X11_tapeAt {l : Launch} {G : Gc} (qm : Nat) (a1 : Int32) (qm_thrown : Int32) (qm_tape : Nat) (qm_taped : Int32) (qm_size : Int32) (qm_limit : Int32) (qm_to : Int32) (qm_from : Int32) (qm_kind : Int32) (qm_number : Int32) (qm_sign : Int32) (qm_fault : Int32) (qm_place : Int32) (qm_word : Int64) (qm_told : Int32) (qm_now : Nat) (qm_read : Nat) (qm_kept : Nat) (qm_snaps : Nat) (qm_aside : Nat) (qm_name : Nat) (qm_readName : Nat) (qm_keptName : Nat) (qm_isKept : Nat) (qm_onces : Nat) (qm_snapMany : Int32) (qm_order : Nat) (qm_ordered : Nat) (qm_orderMany : Int32) (qm_orderMost : Int32) (qm_passing : Int32) (qm_movedWho : Int32) (qm_scratched : Int32) (qm_text : Nat) (qm_texts : Int32) (qm_seed : Int32) (qm_line : Nat) (qm_written : Nat) (qm_lineMany : Int32) (qm_hasWritten : Int32) (qm_node : Nat) (qm_nodes : Int32) (qm_onesMany : Int32) (qm_within : Int32) (qm_top : Int32) (qm_tape_c : Nat → Int32) (hi_a1 : 0 ≤ a1.toInt ∧ a1.toInt ≤ 940) (hi_qm_size : 0 ≤ qm_size.toInt ∧ qm_size.toInt ≤ 940) : Ci l yX11_tapeAt cX11_tapeAt 2 (some .int) 0 0 0 G [.ref qm, .int a1] [(qm, .inr (10, [.int qm_thrown, .ref qm_tape, .int qm_taped, .int qm_size, .int qm_limit, .int qm_to, .int qm_from, .int qm_kind, .int qm_number, .int qm_sign, .int qm_fault, .int qm_place, .long qm_word, .int qm_told, .ref qm_now, .ref qm_read, .ref qm_kept, .ref qm_snaps, .ref qm_aside, .ref qm_name, .ref qm_readName, .ref qm_keptName, .ref qm_isKept, .ref qm_onces, .int qm_snapMany, .ref qm_order, .ref qm_ordered, .int qm_orderMany, .int qm_orderMost, .int qm_passing, .int qm_movedWho, .int qm_scratched, .ref qm_text, .int qm_texts, .int qm_seed, .ref qm_line, .ref qm_written, .int qm_lineMany, .int qm_hasWritten, .ref qm_node, .int qm_nodes, .int qm_onesMany, .int qm_within, .int qm_top])), (qm_tape, eI G 940 qm_tape_c)] (fun (r9 : Int32) (u9 : va_W) => ∃ (r_x : Int32), r9 = r_x ∧ u9 = [(qm, .inr (10, [.int qm_thrown, .ref qm_tape, .int qm_taped, .int qm_size, .int qm_limit, .int qm_to, .int qm_from, .int qm_kind, .int qm_number, .int qm_sign, .int qm_fault, .int qm_place, .long qm_word, .int qm_told, .ref qm_now, .ref qm_read, .ref qm_kept, .ref qm_snaps, .ref qm_aside, .ref qm_name, .ref qm_readName, .ref qm_keptName, .ref qm_isKept, .ref qm_onces, .int qm_snapMany, .ref qm_order, .ref qm_ordered, .int qm_orderMany, .int qm_orderMost, .int qm_passing, .int qm_movedWho, .int qm_scratched, .ref qm_text, .int qm_texts, .int qm_seed, .ref qm_line, .ref qm_written, .int qm_lineMany, .int qm_hasWritten, .ref qm_node, .int qm_nodes, .int qm_onesMany, .int qm_within, .int qm_top])), (qm_tape, eI G 940 qm_tape_c)] ∧ (qm_size.toInt ≤ a1.toInt → r_x.toInt = 0)) := by
  refine Ci.ofQ (by decide) (Nat.le_of_ble_eq_true rfl) ?_
  intro p e s m below meth c ls A args Q hQ B hw hl
  have C : CallFix p m c cX11_tapeAt 2 s args gw "LanternStateModel" := B.1
  have hl : lv_has ls 2 [(0, .ref qm), (1, .int a1)] := hl
  refine lv_iload_n C.1 C.2.1 dX11_tapeAt_0 rfl (lv_at hl 1 rfl) ?_
  refine lv_aload_n C.1 C.2.1 dX11_tapeAt_1 rfl (lv_at hl 0 rfl) ?_
  refine x_get C hw iwX11 10 rfl 0 rfl 3 (by decide) kw1196 rfl dX11_tapeAt_2 ?_
  refine lv_icmp_ge (tgt := 17) C.1 C.2.1 dX11_tapeAt_5 (by decide) (fun c1 => ?_) (fun c1 => ?_)
  · skip
    have c1 : qm_size.toInt ≤ a1.toInt := i_leT (X := qm_size.toInt) (Y := a1.toInt) rfl rfl c1
    refine lv_iconst (v := 0) C.1 C.2.1 dX11_tapeAt_17 (by decide) ?_
    exact x_retiQ hQ B hw ⟨0, rfl, rfl, (by have e0 : (0 : Int32).toInt = 0 := rfl; omega)⟩ (Nat.le_of_ble_eq_true rfl) (Nat.le_of_ble_eq_true rfl) dX11_tapeAt_18
  · skip
    have c1 : a1.toInt < qm_size.toInt := i_leF (X := qm_size.toInt) (Y := a1.toInt) rfl rfl c1
    refine lv_aload_n C.1 C.2.1 dX11_tapeAt_8 rfl (lv_at hl 0 rfl) ?_
    refine x_get C hw iwX11 10 rfl 0 rfl 1 (by decide) kw1194 rfl dX11_tapeAt_9 ?_
    refine lv_iload_n C.1 C.2.1 dX11_tapeAt_12 rfl (lv_at hl 1 rfl) ?_
    refine x_iald (v := (qm_tape_c a1.toNatClampNeg)) C hw 1 rfl (i_in (by omega) (by omega)) rfl dX11_tapeAt_13 (x_gen (fun v2 => ?_))
    refine lv_goto (tgt := 18) C.1 C.2.1 dX11_tapeAt_14 (by decide) ?_
    exact x_retiQ hQ B hw ⟨v2, rfl, rfl, (by omega)⟩ (Nat.le_of_ble_eq_true rfl) (Nat.le_of_ble_eq_true rfl) dX11_tapeAt_18
