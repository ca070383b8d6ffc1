def rd0 : Nat → Int32 := upd (upd (upd (upd (upd (upd (upd (upd (fun _ => 0) 18 (-1)) 19 (-1)) 20 (-1)) 21 (-1)) 22 (-1)) 23 (-1)) 3 1) 5 40
def nw0 : Nat → Int32 := va_cpy rd0 (fun _ => 0) 0 0 64
theorem dX11_startRead_0 : decode cX11_startRead 0 = .ok (.iconst 0, 1) := by decide +kernel
theorem dX11_startRead_1 : decode cX11_startRead 1 = .ok (.istore_n 1, 1) := by decide +kernel
theorem dX11_startRead_2 : decode cX11_startRead 2 = .ok (.iload_n 1, 1) := by decide +kernel
theorem dX11_startRead_3 : decode cX11_startRead 3 = .ok (.bipush 64, 2) := by decide +kernel
theorem dX11_startRead_5 : decode cX11_startRead 5 = .ok (.if_icmp .ge 16, 3) := by decide +kernel
theorem dX11_startRead_21 : decode cX11_startRead 21 = .ok (.iconst 0, 1) := by decide +kernel
theorem dX11_startRead_22 : decode cX11_startRead 22 = .ok (.istore_n 1, 1) := by decide +kernel
theorem dX11_startRead_23 : decode cX11_startRead 23 = .ok (.iload_n 1, 1) := by decide +kernel
theorem dX11_startRead_24 : decode cX11_startRead 24 = .ok (.iconst 3, 1) := by decide +kernel
theorem dX11_startRead_25 : decode cX11_startRead 25 = .ok (.if_icmp .ge 16, 3) := by decide +kernel
theorem dX11_startRead_28 : decode cX11_startRead 28 = .ok (.aload_n 0, 1) := by decide +kernel
theorem dX11_startRead_29 : decode cX11_startRead 29 = .ok (.getfield 127, 3) := by decide +kernel
theorem dX11_startRead_32 : decode cX11_startRead 32 = .ok (.iload_n 1, 1) := by decide +kernel
theorem dX11_startRead_33 : decode cX11_startRead 33 = .ok (.iconst 0, 1) := by decide +kernel
theorem dX11_startRead_34 : decode cX11_startRead 34 = .ok (.bastore, 1) := by decide +kernel
theorem dX11_startRead_35 : decode cX11_startRead 35 = .ok (.iinc 1 1, 3) := by decide +kernel
theorem dX11_startRead_38 : decode cX11_startRead 38 = .ok (.goto (-15), 3) := by decide +kernel
theorem dX11_startRead_41 : decode cX11_startRead 41 = .ok (.iconst 0, 1) := by decide +kernel
theorem dX11_startRead_42 : decode cX11_startRead 42 = .ok (.istore_n 1, 1) := by decide +kernel
theorem dX11_startRead_43 : decode cX11_startRead 43 = .ok (.iload_n 1, 1) := by decide +kernel
theorem dX11_startRead_44 : decode cX11_startRead 44 = .ok (.bipush 6, 2) := by decide +kernel
theorem dX11_startRead_46 : decode cX11_startRead 46 = .ok (.if_icmp .ge 19, 3) := by decide +kernel
theorem dX11_startRead_49 : decode cX11_startRead 49 = .ok (.aload_n 0, 1) := by decide +kernel
theorem dX11_startRead_50 : decode cX11_startRead 50 = .ok (.getfield 101, 3) := by decide +kernel
theorem dX11_startRead_53 : decode cX11_startRead 53 = .ok (.bipush 18, 2) := by decide +kernel
theorem dX11_startRead_55 : decode cX11_startRead 55 = .ok (.iload_n 1, 1) := by decide +kernel
theorem dX11_startRead_56 : decode cX11_startRead 56 = .ok (.iadd, 1) := by decide +kernel
theorem dX11_startRead_57 : decode cX11_startRead 57 = .ok (.iconst (-1), 1) := by decide +kernel
theorem dX11_startRead_58 : decode cX11_startRead 58 = .ok (.iastore, 1) := by decide +kernel
theorem dX11_startRead_59 : decode cX11_startRead 59 = .ok (.iinc 1 1, 3) := by decide +kernel
theorem dX11_startRead_62 : decode cX11_startRead 62 = .ok (.goto (-19), 3) := by decide +kernel
theorem dX11_startRead_65 : decode cX11_startRead 65 = .ok (.aload_n 0, 1) := by decide +kernel
theorem dX11_startRead_66 : decode cX11_startRead 66 = .ok (.getfield 101, 3) := by decide +kernel
theorem dX11_startRead_69 : decode cX11_startRead 69 = .ok (.iconst 3, 1) := by decide +kernel
theorem dX11_startRead_70 : decode cX11_startRead 70 = .ok (.iconst 1, 1) := by decide +kernel
theorem dX11_startRead_71 : decode cX11_startRead 71 = .ok (.iastore, 1) := by decide +kernel
theorem dX11_startRead_72 : decode cX11_startRead 72 = .ok (.aload_n 0, 1) := by decide +kernel
theorem dX11_startRead_73 : decode cX11_startRead 73 = .ok (.getfield 101, 3) := by decide +kernel
theorem dX11_startRead_76 : decode cX11_startRead 76 = .ok (.iconst 5, 1) := by decide +kernel
theorem dX11_startRead_77 : decode cX11_startRead 77 = .ok (.bipush 40, 2) := by decide +kernel
theorem dX11_startRead_79 : decode cX11_startRead 79 = .ok (.iastore, 1) := by decide +kernel
theorem dX11_startRead_80 : decode cX11_startRead 80 = .ok (.return_, 1) := by decide +kernel
theorem dX11_startRead_8 : decode cX11_startRead 8 = .ok (.aload_n 0, 1) := by decide +kernel
theorem dX11_startRead_9 : decode cX11_startRead 9 = .ok (.getfield 101, 3) := by decide +kernel
theorem dX11_startRead_12 : decode cX11_startRead 12 = .ok (.iload_n 1, 1) := by decide +kernel
theorem dX11_startRead_13 : decode cX11_startRead 13 = .ok (.iconst 0, 1) := by decide +kernel
theorem dX11_startRead_14 : decode cX11_startRead 14 = .ok (.iastore, 1) := by decide +kernel
theorem dX11_startRead_15 : decode cX11_startRead 15 = .ok (.iinc 1 1, 3) := by decide +kernel
theorem dX11_startRead_18 : decode cX11_startRead 18 = .ok (.goto (-16), 3) := by decide +kernel
-- startRead on a new object
set_option maxHeartbeats 4000000 in
set_option maxRecDepth 100000 in
theorem c_X11_startRead0 {l : Launch} {G : Gc} (qm : Nat) (mtape : Nat) (mnow : Nat) (mread : Nat) (mkept : Nat) (msnaps : Nat) (maside : Nat) (mname : Nat) (mreadName : Nat) (mkeptName : Nat) (misKept : Nat) (monces : Nat) (morder : Nat) (mordered : Nat) (mtext : Nat) (mline : Nat) (mwritten : Nat) (mnode : Nat)  : Cv l yX11_startRead cX11_startRead 2 0 0 0 G [.ref qm] [(qm, .inr (10, [.int 0, .ref mtape, .int 0, .int 0, .int 0, .int 0, .int 0, .int 0, .int 0, .int 0, .int 0, .int 0, .long 0, .int 0, .ref mnow, .ref mread, .ref mkept, .ref msnaps, .ref maside, .ref mname, .ref mreadName, .ref mkeptName, .ref misKept, .ref monces, .int 0, .ref morder, .ref mordered, .int 0, .int 0, .int 0, .int (-1), .int (-1), .ref mtext, .int 0, .int 0, .ref mline, .ref mwritten, .int 0, .int 0, .ref mnode, .int 0, .int 0, .int 0, .int 0])), (mread, eI G 64 (fun _ => 0)), (monces, eZ G 3 (fun _ => 0))] (fun (u9 : va_W) => u9 = [(qm, .inr (10, [.int 0, .ref mtape, .int 0, .int 0, .int 0, .int 0, .int 0, .int 0, .int 0, .int 0, .int 0, .int 0, .long 0, .int 0, .ref mnow, .ref mread, .ref mkept, .ref msnaps, .ref maside, .ref mname, .ref mreadName, .ref mkeptName, .ref misKept, .ref monces, .int 0, .ref morder, .ref mordered, .int 0, .int 0, .int 0, .int (-1), .int (-1), .ref mtext, .int 0, .int 0, .ref mline, .ref mwritten, .int 0, .int 0, .ref mnode, .int 0, .int 0, .int 0, .int 0])), (mread, eI G 64 rd0), (monces, eZ G 3 (fun _ => 0))]) := by
  refine Cv.of (by decide) (Nat.le_of_ble_eq_true rfl) ?_
  intro p e s m below meth c ls A B hw hl
  have C : CallFix p m c cX11_startRead 2 s _ gw "LanternStateModel" := B.1
  have hl : lv_has ls 2 [(0, .ref qm)] := hl
  refine lv_iconst (v := 0) C.1 C.2.1 dX11_startRead_0 (by decide) ?_
  refine lv_istore_n (lv' := [(1, .int 0), (0, .ref qm)]) C.1 C.2.1 dX11_startRead_1 rfl hl (by decide) rfl (fun ls hl => ?_)
  have loop2 : ∀ (n9 : Nat) (k9 : Nat), 64 - k9 < n9 → k9 ≤ 64 → ∀ (H : Heap) (locs : List Loc) (ls : Array Slot), Wd G s A [(qm, .inr (10, [.int 0, .ref mtape, .int 0, .int 0, .int 0, .int 0, .int 0, .int 0, .int 0, .int 0, .int 0, .int 0, .long 0, .int 0, .ref mnow, .ref mread, .ref mkept, .ref msnaps, .ref maside, .ref mname, .ref mreadName, .ref mkeptName, .ref misKept, .ref monces, .int 0, .ref morder, .ref mordered, .int 0, .int 0, .int 0, .int (-1), .int (-1), .ref mtext, .int 0, .int 0, .ref mline, .ref mwritten, .int 0, .int 0, .ref mnode, .int 0, .int 0, .int 0, .int 0])), (mread, eI G 64 (fun _ => 0)), (monces, eZ G 3 (fun _ => 0))] H locs → lv_has ls 2 [(1, .int (nI k9)), (0, .ref qm)] → W p l e (rmD 0 0 0) s m [.ref qm].toArray below meth c H locs 0 0 (MQ below (va_Qv (fun (u9 : va_W) => u9 = [(qm, .inr (10, [.int 0, .ref mtape, .int 0, .int 0, .int 0, .int 0, .int 0, .int 0, .int 0, .int 0, .int 0, .int 0, .long 0, .int 0, .ref mnow, .ref mread, .ref mkept, .ref msnaps, .ref maside, .ref mname, .ref mreadName, .ref mkeptName, .ref misKept, .ref monces, .int 0, .ref morder, .ref mordered, .int 0, .int 0, .int 0, .int (-1), .int (-1), .ref mtext, .int 0, .int 0, .ref mline, .ref mwritten, .int 0, .int 0, .ref mnode, .int 0, .int 0, .int 0, .int 0])), (mread, eI G 64 rd0), (monces, eZ G 3 (fun _ => 0))]) (mB G A) A) [.ref qm].toArray s 0 0 A) (F0 m 2 ls []) := by
    intro n9
    induction n9 with
    | zero => intro k9 h9; exact absurd h9 (Nat.not_lt_zero _)
    | succ n9 ih =>
      intro k9 h9 hi2 H locs ls hw hl
      refine lv_iload_n C.1 C.2.1 dX11_startRead_2 rfl (lv_at hl 0 rfl) ?_
      refine lv_bipush (v := 64) C.1 C.2.1 dX11_startRead_3 (by decide) ?_
      refine lv_icmp_ge (tgt := 21) C.1 C.2.1 dX11_startRead_5 (by decide) (fun c_5 => ?_) (fun c_5 => ?_)
      · skip
        refine lv_iconst (v := 0) C.1 C.2.1 dX11_startRead_21 (by decide) ?_
        refine lv_istore_n (lv' := [(1, .int 0), (0, .ref qm)]) C.1 C.2.1 dX11_startRead_22 rfl hl (by decide) rfl (fun ls hl => ?_)
        refine lv_iload_n C.1 C.2.1 dX11_startRead_23 rfl (lv_at hl 0 rfl) ?_
        refine lv_iconst (v := 3) C.1 C.2.1 dX11_startRead_24 (by decide) ?_
        refine lv_icmp_ge (tgt := 41) C.1 C.2.1 dX11_startRead_25 (by decide) (fun h9 => absurd h9 (by decide)) (fun _ => ?_)
        refine lv_aload_n C.1 C.2.1 dX11_startRead_28 rfl (lv_at hl 1 rfl) ?_
        refine x_get C hw iwX11 10 rfl 0 rfl 23 (by decide) kw1216 rfl dX11_startRead_29 ?_
        refine lv_iload_n C.1 C.2.1 dX11_startRead_32 rfl (lv_at hl 0 rfl) ?_
        refine lv_iconst (v := 0) C.1 C.2.1 dX11_startRead_33 (by decide) ?_
        refine x_zast (f' := (fun _ => 0)) (w' := [(qm, .inr (10, [.int 0, .ref mtape, .int 0, .int 0, .int 0, .int 0, .int 0, .int 0, .int 0, .int 0, .int 0, .int 0, .long 0, .int 0, .ref mnow, .ref mread, .ref mkept, .ref msnaps, .ref maside, .ref mname, .ref mreadName, .ref mkeptName, .ref misKept, .ref monces, .int 0, .ref morder, .ref mordered, .int 0, .int 0, .int 0, .int (-1), .int (-1), .ref mtext, .int 0, .int 0, .ref mline, .ref mwritten, .int 0, .int 0, .ref mnode, .int 0, .int 0, .int 0, .int 0])), (mread, eI G 64 (fun _ => 0)), (monces, eZ G 3 (fun _ => 0))]) C hw 2 rfl (x_in rfl) (x_updC 0 _) rfl dX11_startRead_34 (fun H locs hw => ?_)
        refine lv_iinc (v := 1) (lv' := [(1, .int 1), (0, .ref qm)]) C.1 C.2.1 dX11_startRead_35 hl (k := 0) rfl (by decide) (by decide) rfl (fun ls hl => ?_)
        refine lv_goto (tgt := 23) C.1 C.2.1 dX11_startRead_38 (by decide) ?_
        refine lv_iload_n C.1 C.2.1 dX11_startRead_23 rfl (lv_at hl 0 rfl) ?_
        refine lv_iconst (v := 3) C.1 C.2.1 dX11_startRead_24 (by decide) ?_
        refine lv_icmp_ge (tgt := 41) C.1 C.2.1 dX11_startRead_25 (by decide) (fun h9 => absurd h9 (by decide)) (fun _ => ?_)
        refine lv_aload_n C.1 C.2.1 dX11_startRead_28 rfl (lv_at hl 1 rfl) ?_
        refine x_get C hw iwX11 10 rfl 0 rfl 23 (by decide) kw1216 rfl dX11_startRead_29 ?_
        refine lv_iload_n C.1 C.2.1 dX11_startRead_32 rfl (lv_at hl 0 rfl) ?_
        refine lv_iconst (v := 0) C.1 C.2.1 dX11_startRead_33 (by decide) ?_
        refine x_zast (f' := (fun _ => 0)) (w' := [(qm, .inr (10, [.int 0, .ref mtape, .int 0, .int 0, .int 0, .int 0, .int 0, .int 0, .int 0, .int 0, .int 0, .int 0, .long 0, .int 0, .ref mnow, .ref mread, .ref mkept, .ref msnaps, .ref maside, .ref mname, .ref mreadName, .ref mkeptName, .ref misKept, .ref monces, .int 0, .ref morder, .ref mordered, .int 0, .int 0, .int 0, .int (-1), .int (-1), .ref mtext, .int 0, .int 0, .ref mline, .ref mwritten, .int 0, .int 0, .ref mnode, .int 0, .int 0, .int 0, .int 0])), (mread, eI G 64 (fun _ => 0)), (monces, eZ G 3 (fun _ => 0))]) C hw 2 rfl (x_in rfl) (x_updC 0 _) rfl dX11_startRead_34 (fun H locs hw => ?_)
        refine lv_iinc (v := 2) (lv' := [(1, .int 2), (0, .ref qm)]) C.1 C.2.1 dX11_startRead_35 hl (k := 0) rfl (by decide) (by decide) rfl (fun ls hl => ?_)
        refine lv_goto (tgt := 23) C.1 C.2.1 dX11_startRead_38 (by decide) ?_
        refine lv_iload_n C.1 C.2.1 dX11_startRead_23 rfl (lv_at hl 0 rfl) ?_
        refine lv_iconst (v := 3) C.1 C.2.1 dX11_startRead_24 (by decide) ?_
        refine lv_icmp_ge (tgt := 41) C.1 C.2.1 dX11_startRead_25 (by decide) (fun h9 => absurd h9 (by decide)) (fun _ => ?_)
        refine lv_aload_n C.1 C.2.1 dX11_startRead_28 rfl (lv_at hl 1 rfl) ?_
        refine x_get C hw iwX11 10 rfl 0 rfl 23 (by decide) kw1216 rfl dX11_startRead_29 ?_
        refine lv_iload_n C.1 C.2.1 dX11_startRead_32 rfl (lv_at hl 0 rfl) ?_
        refine lv_iconst (v := 0) C.1 C.2.1 dX11_startRead_33 (by decide) ?_
        refine x_zast (f' := (fun _ => 0)) (w' := [(qm, .inr (10, [.int 0, .ref mtape, .int 0, .int 0, .int 0, .int 0, .int 0, .int 0, .int 0, .int 0, .int 0, .int 0, .long 0, .int 0, .ref mnow, .ref mread, .ref mkept, .ref msnaps, .ref maside, .ref mname, .ref mreadName, .ref mkeptName, .ref misKept, .ref monces, .int 0, .ref morder, .ref mordered, .int 0, .int 0, .int 0, .int (-1), .int (-1), .ref mtext, .int 0, .int 0, .ref mline, .ref mwritten, .int 0, .int 0, .ref mnode, .int 0, .int 0, .int 0, .int 0])), (mread, eI G 64 (fun _ => 0)), (monces, eZ G 3 (fun _ => 0))]) C hw 2 rfl (x_in rfl) (x_updC 0 _) rfl dX11_startRead_34 (fun H locs hw => ?_)
        refine lv_iinc (v := 3) (lv' := [(1, .int 3), (0, .ref qm)]) C.1 C.2.1 dX11_startRead_35 hl (k := 0) rfl (by decide) (by decide) rfl (fun ls hl => ?_)
        refine lv_goto (tgt := 23) C.1 C.2.1 dX11_startRead_38 (by decide) ?_
        refine lv_iload_n C.1 C.2.1 dX11_startRead_23 rfl (lv_at hl 0 rfl) ?_
        refine lv_iconst (v := 3) C.1 C.2.1 dX11_startRead_24 (by decide) ?_
        refine lv_icmp_ge (tgt := 41) C.1 C.2.1 dX11_startRead_25 (by decide) (fun _ => ?_) (fun h9 => absurd (by decide) h9)
        refine lv_iconst (v := 0) C.1 C.2.1 dX11_startRead_41 (by decide) ?_
        refine lv_istore_n (lv' := [(1, .int 0), (0, .ref qm)]) C.1 C.2.1 dX11_startRead_42 rfl hl (by decide) rfl (fun ls hl => ?_)
        refine lv_iload_n C.1 C.2.1 dX11_startRead_43 rfl (lv_at hl 0 rfl) ?_
        refine lv_bipush (v := 6) C.1 C.2.1 dX11_startRead_44 (by decide) ?_
        refine lv_icmp_ge (tgt := 65) C.1 C.2.1 dX11_startRead_46 (by decide) (fun h9 => absurd h9 (by decide)) (fun _ => ?_)
        refine lv_aload_n C.1 C.2.1 dX11_startRead_49 rfl (lv_at hl 1 rfl) ?_
        refine x_get C hw iwX11 10 rfl 0 rfl 15 (by decide) kw1208 rfl dX11_startRead_50 ?_
        refine lv_bipush (v := 18) C.1 C.2.1 dX11_startRead_53 (by decide) ?_
        refine lv_iload_n C.1 C.2.1 dX11_startRead_55 rfl (lv_at hl 0 rfl) ?_
        refine lv_iadd C.1 C.2.1 dX11_startRead_56 ?_
        refine x_topi (z := 18) (by decide) ?_
        refine lv_iconst (v := (-1)) C.1 C.2.1 dX11_startRead_57 (by decide) ?_
        refine x_iast (f' := (upd (fun _ => 0) 18 (-1))) (w' := [(qm, .inr (10, [.int 0, .ref mtape, .int 0, .int 0, .int 0, .int 0, .int 0, .int 0, .int 0, .int 0, .int 0, .int 0, .long 0, .int 0, .ref mnow, .ref mread, .ref mkept, .ref msnaps, .ref maside, .ref mname, .ref mreadName, .ref mkeptName, .ref misKept, .ref monces, .int 0, .ref morder, .ref mordered, .int 0, .int 0, .int 0, .int (-1), .int (-1), .ref mtext, .int 0, .int 0, .ref mline, .ref mwritten, .int 0, .int 0, .ref mnode, .int 0, .int 0, .int 0, .int 0])), (mread, eI G 64 (upd (fun _ => 0) 18 (-1))), (monces, eZ G 3 (fun _ => 0))]) C hw 1 rfl (x_in rfl) rfl rfl dX11_startRead_58 (fun H locs hw => ?_)
        refine lv_iinc (v := 1) (lv' := [(1, .int 1), (0, .ref qm)]) C.1 C.2.1 dX11_startRead_59 hl (k := 0) rfl (by decide) (by decide) rfl (fun ls hl => ?_)
        refine lv_goto (tgt := 43) C.1 C.2.1 dX11_startRead_62 (by decide) ?_
        refine lv_iload_n C.1 C.2.1 dX11_startRead_43 rfl (lv_at hl 0 rfl) ?_
        refine lv_bipush (v := 6) C.1 C.2.1 dX11_startRead_44 (by decide) ?_
        refine lv_icmp_ge (tgt := 65) C.1 C.2.1 dX11_startRead_46 (by decide) (fun h9 => absurd h9 (by decide)) (fun _ => ?_)
        refine lv_aload_n C.1 C.2.1 dX11_startRead_49 rfl (lv_at hl 1 rfl) ?_
        refine x_get C hw iwX11 10 rfl 0 rfl 15 (by decide) kw1208 rfl dX11_startRead_50 ?_
        refine lv_bipush (v := 18) C.1 C.2.1 dX11_startRead_53 (by decide) ?_
        refine lv_iload_n C.1 C.2.1 dX11_startRead_55 rfl (lv_at hl 0 rfl) ?_
        refine lv_iadd C.1 C.2.1 dX11_startRead_56 ?_
        refine x_topi (z := 19) (by decide) ?_
        refine lv_iconst (v := (-1)) C.1 C.2.1 dX11_startRead_57 (by decide) ?_
        refine x_iast (f' := (upd (upd (fun _ => 0) 18 (-1)) 19 (-1))) (w' := [(qm, .inr (10, [.int 0, .ref mtape, .int 0, .int 0, .int 0, .int 0, .int 0, .int 0, .int 0, .int 0, .int 0, .int 0, .long 0, .int 0, .ref mnow, .ref mread, .ref mkept, .ref msnaps, .ref maside, .ref mname, .ref mreadName, .ref mkeptName, .ref misKept, .ref monces, .int 0, .ref morder, .ref mordered, .int 0, .int 0, .int 0, .int (-1), .int (-1), .ref mtext, .int 0, .int 0, .ref mline, .ref mwritten, .int 0, .int 0, .ref mnode, .int 0, .int 0, .int 0, .int 0])), (mread, eI G 64 (upd (upd (fun _ => 0) 18 (-1)) 19 (-1))), (monces, eZ G 3 (fun _ => 0))]) C hw 1 rfl (x_in rfl) rfl rfl dX11_startRead_58 (fun H locs hw => ?_)
        refine lv_iinc (v := 2) (lv' := [(1, .int 2), (0, .ref qm)]) C.1 C.2.1 dX11_startRead_59 hl (k := 0) rfl (by decide) (by decide) rfl (fun ls hl => ?_)
        refine lv_goto (tgt := 43) C.1 C.2.1 dX11_startRead_62 (by decide) ?_
        refine lv_iload_n C.1 C.2.1 dX11_startRead_43 rfl (lv_at hl 0 rfl) ?_
        refine lv_bipush (v := 6) C.1 C.2.1 dX11_startRead_44 (by decide) ?_
        refine lv_icmp_ge (tgt := 65) C.1 C.2.1 dX11_startRead_46 (by decide) (fun h9 => absurd h9 (by decide)) (fun _ => ?_)
        refine lv_aload_n C.1 C.2.1 dX11_startRead_49 rfl (lv_at hl 1 rfl) ?_
        refine x_get C hw iwX11 10 rfl 0 rfl 15 (by decide) kw1208 rfl dX11_startRead_50 ?_
        refine lv_bipush (v := 18) C.1 C.2.1 dX11_startRead_53 (by decide) ?_
        refine lv_iload_n C.1 C.2.1 dX11_startRead_55 rfl (lv_at hl 0 rfl) ?_
        refine lv_iadd C.1 C.2.1 dX11_startRead_56 ?_
        refine x_topi (z := 20) (by decide) ?_
        refine lv_iconst (v := (-1)) C.1 C.2.1 dX11_startRead_57 (by decide) ?_
        refine x_iast (f' := (upd (upd (upd (fun _ => 0) 18 (-1)) 19 (-1)) 20 (-1))) (w' := [(qm, .inr (10, [.int 0, .ref mtape, .int 0, .int 0, .int 0, .int 0, .int 0, .int 0, .int 0, .int 0, .int 0, .int 0, .long 0, .int 0, .ref mnow, .ref mread, .ref mkept, .ref msnaps, .ref maside, .ref mname, .ref mreadName, .ref mkeptName, .ref misKept, .ref monces, .int 0, .ref morder, .ref mordered, .int 0, .int 0, .int 0, .int (-1), .int (-1), .ref mtext, .int 0, .int 0, .ref mline, .ref mwritten, .int 0, .int 0, .ref mnode, .int 0, .int 0, .int 0, .int 0])), (mread, eI G 64 (upd (upd (upd (fun _ => 0) 18 (-1)) 19 (-1)) 20 (-1))), (monces, eZ G 3 (fun _ => 0))]) C hw 1 rfl (x_in rfl) rfl rfl dX11_startRead_58 (fun H locs hw => ?_)
        refine lv_iinc (v := 3) (lv' := [(1, .int 3), (0, .ref qm)]) C.1 C.2.1 dX11_startRead_59 hl (k := 0) rfl (by decide) (by decide) rfl (fun ls hl => ?_)
        refine lv_goto (tgt := 43) C.1 C.2.1 dX11_startRead_62 (by decide) ?_
        refine lv_iload_n C.1 C.2.1 dX11_startRead_43 rfl (lv_at hl 0 rfl) ?_
        refine lv_bipush (v := 6) C.1 C.2.1 dX11_startRead_44 (by decide) ?_
        refine lv_icmp_ge (tgt := 65) C.1 C.2.1 dX11_startRead_46 (by decide) (fun h9 => absurd h9 (by decide)) (fun _ => ?_)
        refine lv_aload_n C.1 C.2.1 dX11_startRead_49 rfl (lv_at hl 1 rfl) ?_
        refine x_get C hw iwX11 10 rfl 0 rfl 15 (by decide) kw1208 rfl dX11_startRead_50 ?_
        refine lv_bipush (v := 18) C.1 C.2.1 dX11_startRead_53 (by decide) ?_
        refine lv_iload_n C.1 C.2.1 dX11_startRead_55 rfl (lv_at hl 0 rfl) ?_
        refine lv_iadd C.1 C.2.1 dX11_startRead_56 ?_
        refine x_topi (z := 21) (by decide) ?_
        refine lv_iconst (v := (-1)) C.1 C.2.1 dX11_startRead_57 (by decide) ?_
        refine x_iast (f' := (upd (upd (upd (upd (fun _ => 0) 18 (-1)) 19 (-1)) 20 (-1)) 21 (-1))) (w' := [(qm, .inr (10, [.int 0, .ref mtape, .int 0, .int 0, .int 0, .int 0, .int 0, .int 0, .int 0, .int 0, .int 0, .int 0, .long 0, .int 0, .ref mnow, .ref mread, .ref mkept, .ref msnaps, .ref maside, .ref mname, .ref mreadName, .ref mkeptName, .ref misKept, .ref monces, .int 0, .ref morder, .ref mordered, .int 0, .int 0, .int 0, .int (-1), .int (-1), .ref mtext, .int 0, .int 0, .ref mline, .ref mwritten, .int 0, .int 0, .ref mnode, .int 0, .int 0, .int 0, .int 0])), (mread, eI G 64 (upd (upd (upd (upd (fun _ => 0) 18 (-1)) 19 (-1)) 20 (-1)) 21 (-1))), (monces, eZ G 3 (fun _ => 0))]) C hw 1 rfl (x_in rfl) rfl rfl dX11_startRead_58 (fun H locs hw => ?_)
        refine lv_iinc (v := 4) (lv' := [(1, .int 4), (0, .ref qm)]) C.1 C.2.1 dX11_startRead_59 hl (k := 0) rfl (by decide) (by decide) rfl (fun ls hl => ?_)
        refine lv_goto (tgt := 43) C.1 C.2.1 dX11_startRead_62 (by decide) ?_
        refine lv_iload_n C.1 C.2.1 dX11_startRead_43 rfl (lv_at hl 0 rfl) ?_
        refine lv_bipush (v := 6) C.1 C.2.1 dX11_startRead_44 (by decide) ?_
        refine lv_icmp_ge (tgt := 65) C.1 C.2.1 dX11_startRead_46 (by decide) (fun h9 => absurd h9 (by decide)) (fun _ => ?_)
        refine lv_aload_n C.1 C.2.1 dX11_startRead_49 rfl (lv_at hl 1 rfl) ?_
        refine x_get C hw iwX11 10 rfl 0 rfl 15 (by decide) kw1208 rfl dX11_startRead_50 ?_
        refine lv_bipush (v := 18) C.1 C.2.1 dX11_startRead_53 (by decide) ?_
        refine lv_iload_n C.1 C.2.1 dX11_startRead_55 rfl (lv_at hl 0 rfl) ?_
        refine lv_iadd C.1 C.2.1 dX11_startRead_56 ?_
        refine x_topi (z := 22) (by decide) ?_
        refine lv_iconst (v := (-1)) C.1 C.2.1 dX11_startRead_57 (by decide) ?_
        refine x_iast (f' := (upd (upd (upd (upd (upd (fun _ => 0) 18 (-1)) 19 (-1)) 20 (-1)) 21 (-1)) 22 (-1))) (w' := [(qm, .inr (10, [.int 0, .ref mtape, .int 0, .int 0, .int 0, .int 0, .int 0, .int 0, .int 0, .int 0, .int 0, .int 0, .long 0, .int 0, .ref mnow, .ref mread, .ref mkept, .ref msnaps, .ref maside, .ref mname, .ref mreadName, .ref mkeptName, .ref misKept, .ref monces, .int 0, .ref morder, .ref mordered, .int 0, .int 0, .int 0, .int (-1), .int (-1), .ref mtext, .int 0, .int 0, .ref mline, .ref mwritten, .int 0, .int 0, .ref mnode, .int 0, .int 0, .int 0, .int 0])), (mread, eI G 64 (upd (upd (upd (upd (upd (fun _ => 0) 18 (-1)) 19 (-1)) 20 (-1)) 21 (-1)) 22 (-1))), (monces, eZ G 3 (fun _ => 0))]) C hw 1 rfl (x_in rfl) rfl rfl dX11_startRead_58 (fun H locs hw => ?_)
        refine lv_iinc (v := 5) (lv' := [(1, .int 5), (0, .ref qm)]) C.1 C.2.1 dX11_startRead_59 hl (k := 0) rfl (by decide) (by decide) rfl (fun ls hl => ?_)
        refine lv_goto (tgt := 43) C.1 C.2.1 dX11_startRead_62 (by decide) ?_
        refine lv_iload_n C.1 C.2.1 dX11_startRead_43 rfl (lv_at hl 0 rfl) ?_
        refine lv_bipush (v := 6) C.1 C.2.1 dX11_startRead_44 (by decide) ?_
        refine lv_icmp_ge (tgt := 65) C.1 C.2.1 dX11_startRead_46 (by decide) (fun h9 => absurd h9 (by decide)) (fun _ => ?_)
        refine lv_aload_n C.1 C.2.1 dX11_startRead_49 rfl (lv_at hl 1 rfl) ?_
        refine x_get C hw iwX11 10 rfl 0 rfl 15 (by decide) kw1208 rfl dX11_startRead_50 ?_
        refine lv_bipush (v := 18) C.1 C.2.1 dX11_startRead_53 (by decide) ?_
        refine lv_iload_n C.1 C.2.1 dX11_startRead_55 rfl (lv_at hl 0 rfl) ?_
        refine lv_iadd C.1 C.2.1 dX11_startRead_56 ?_
        refine x_topi (z := 23) (by decide) ?_
        refine lv_iconst (v := (-1)) C.1 C.2.1 dX11_startRead_57 (by decide) ?_
        refine x_iast (f' := (upd (upd (upd (upd (upd (upd (fun _ => 0) 18 (-1)) 19 (-1)) 20 (-1)) 21 (-1)) 22 (-1)) 23 (-1))) (w' := [(qm, .inr (10, [.int 0, .ref mtape, .int 0, .int 0, .int 0, .int 0, .int 0, .int 0, .int 0, .int 0, .int 0, .int 0, .long 0, .int 0, .ref mnow, .ref mread, .ref mkept, .ref msnaps, .ref maside, .ref mname, .ref mreadName, .ref mkeptName, .ref misKept, .ref monces, .int 0, .ref morder, .ref mordered, .int 0, .int 0, .int 0, .int (-1), .int (-1), .ref mtext, .int 0, .int 0, .ref mline, .ref mwritten, .int 0, .int 0, .ref mnode, .int 0, .int 0, .int 0, .int 0])), (mread, eI G 64 (upd (upd (upd (upd (upd (upd (fun _ => 0) 18 (-1)) 19 (-1)) 20 (-1)) 21 (-1)) 22 (-1)) 23 (-1))), (monces, eZ G 3 (fun _ => 0))]) C hw 1 rfl (x_in rfl) rfl rfl dX11_startRead_58 (fun H locs hw => ?_)
        refine lv_iinc (v := 6) (lv' := [(1, .int 6), (0, .ref qm)]) C.1 C.2.1 dX11_startRead_59 hl (k := 0) rfl (by decide) (by decide) rfl (fun ls hl => ?_)
        refine lv_goto (tgt := 43) C.1 C.2.1 dX11_startRead_62 (by decide) ?_
        refine lv_iload_n C.1 C.2.1 dX11_startRead_43 rfl (lv_at hl 0 rfl) ?_
        refine lv_bipush (v := 6) C.1 C.2.1 dX11_startRead_44 (by decide) ?_
        refine lv_icmp_ge (tgt := 65) C.1 C.2.1 dX11_startRead_46 (by decide) (fun _ => ?_) (fun h9 => absurd (by decide) h9)
        refine lv_aload_n C.1 C.2.1 dX11_startRead_65 rfl (lv_at hl 1 rfl) ?_
        refine x_get C hw iwX11 10 rfl 0 rfl 15 (by decide) kw1208 rfl dX11_startRead_66 ?_
        refine lv_iconst (v := 3) C.1 C.2.1 dX11_startRead_69 (by decide) ?_
        refine lv_iconst (v := 1) C.1 C.2.1 dX11_startRead_70 (by decide) ?_
        refine x_iast (f' := (upd (upd (upd (upd (upd (upd (upd (fun _ => 0) 18 (-1)) 19 (-1)) 20 (-1)) 21 (-1)) 22 (-1)) 23 (-1)) 3 1)) (w' := [(qm, .inr (10, [.int 0, .ref mtape, .int 0, .int 0, .int 0, .int 0, .int 0, .int 0, .int 0, .int 0, .int 0, .int 0, .long 0, .int 0, .ref mnow, .ref mread, .ref mkept, .ref msnaps, .ref maside, .ref mname, .ref mreadName, .ref mkeptName, .ref misKept, .ref monces, .int 0, .ref morder, .ref mordered, .int 0, .int 0, .int 0, .int (-1), .int (-1), .ref mtext, .int 0, .int 0, .ref mline, .ref mwritten, .int 0, .int 0, .ref mnode, .int 0, .int 0, .int 0, .int 0])), (mread, eI G 64 (upd (upd (upd (upd (upd (upd (upd (fun _ => 0) 18 (-1)) 19 (-1)) 20 (-1)) 21 (-1)) 22 (-1)) 23 (-1)) 3 1)), (monces, eZ G 3 (fun _ => 0))]) C hw 1 rfl (x_in rfl) rfl rfl dX11_startRead_71 (fun H locs hw => ?_)
        refine lv_aload_n C.1 C.2.1 dX11_startRead_72 rfl (lv_at hl 1 rfl) ?_
        refine x_get C hw iwX11 10 rfl 0 rfl 15 (by decide) kw1208 rfl dX11_startRead_73 ?_
        refine lv_iconst (v := 5) C.1 C.2.1 dX11_startRead_76 (by decide) ?_
        refine lv_bipush (v := 40) C.1 C.2.1 dX11_startRead_77 (by decide) ?_
        refine x_iast (f' := (upd (upd (upd (upd (upd (upd (upd (upd (fun _ => 0) 18 (-1)) 19 (-1)) 20 (-1)) 21 (-1)) 22 (-1)) 23 (-1)) 3 1) 5 40)) (w' := [(qm, .inr (10, [.int 0, .ref mtape, .int 0, .int 0, .int 0, .int 0, .int 0, .int 0, .int 0, .int 0, .int 0, .int 0, .long 0, .int 0, .ref mnow, .ref mread, .ref mkept, .ref msnaps, .ref maside, .ref mname, .ref mreadName, .ref mkeptName, .ref misKept, .ref monces, .int 0, .ref morder, .ref mordered, .int 0, .int 0, .int 0, .int (-1), .int (-1), .ref mtext, .int 0, .int 0, .ref mline, .ref mwritten, .int 0, .int 0, .ref mnode, .int 0, .int 0, .int 0, .int 0])), (mread, eI G 64 (upd (upd (upd (upd (upd (upd (upd (upd (fun _ => 0) 18 (-1)) 19 (-1)) 20 (-1)) 21 (-1)) 22 (-1)) 23 (-1)) 3 1) 5 40)), (monces, eZ G 3 (fun _ => 0))]) C hw 1 rfl (x_in rfl) rfl rfl dX11_startRead_79 (fun H locs hw => ?_)
        exact x_retv B hw rfl (Nat.le_of_ble_eq_true rfl) (Nat.le_of_ble_eq_true rfl) dX11_startRead_80
      · skip
        have hk5 : k9 < 64 := x_ltN hi2 c_5 (by decide)
        refine lv_aload_n C.1 C.2.1 dX11_startRead_8 rfl (lv_at hl 1 rfl) ?_
        refine x_get C hw iwX11 10 rfl 0 rfl 15 (by decide) kw1208 rfl dX11_startRead_9 ?_
        refine lv_iload_n C.1 C.2.1 dX11_startRead_12 rfl (lv_at hl 0 rfl) ?_
        refine lv_iconst (v := 0) C.1 C.2.1 dX11_startRead_13 (by decide) ?_
        refine x_iast (f' := (fun _ => 0)) (w' := [(qm, .inr (10, [.int 0, .ref mtape, .int 0, .int 0, .int 0, .int 0, .int 0, .int 0, .int 0, .int 0, .int 0, .int 0, .long 0, .int 0, .ref mnow, .ref mread, .ref mkept, .ref msnaps, .ref maside, .ref mname, .ref mreadName, .ref mkeptName, .ref misKept, .ref monces, .int 0, .ref morder, .ref mordered, .int 0, .int 0, .int 0, .int (-1), .int (-1), .ref mtext, .int 0, .int 0, .ref mline, .ref mwritten, .int 0, .int 0, .ref mnode, .int 0, .int 0, .int 0, .int 0])), (mread, eI G 64 (fun _ => 0)), (monces, eZ G 3 (fun _ => 0))]) C hw 1 rfl (vp_in_nI hk5 (by decide)) (x_updC 0 _) rfl dX11_startRead_14 (fun H locs hw => ?_)
        refine lv_iinc (v := (nI (k9 + 1))) (lv' := [(1, .int (nI (k9 + 1))), (0, .ref qm)]) C.1 C.2.1 dX11_startRead_15 hl (k := 0) rfl (nI_1 k9) (by decide) rfl (fun ls hl => ?_)
        refine lv_goto (tgt := 2) C.1 C.2.1 dX11_startRead_18 (by decide) ?_
        exact ih (k9 + 1) (by omega) hk5 _ _ _ hw (lv_sub hl [0, 1] rfl)
  exact loop2 _ 0 (Nat.lt_succ_self _) (Nat.zero_le _) _ _ _ hw (lv_sub hl [0, 1] rfl)
theorem dX11_init_0 : decode cX11_init 0 = .ok (.aload_n 0, 1) := by decide +kernel
theorem dX11_init_1 : decode cX11_init 1 = .ok (.invokespecial 93, 3) := by decide +kernel
theorem dX11_init_4 : decode cX11_init 4 = .ok (.aload_n 0, 1) := by decide +kernel
theorem dX11_init_5 : decode cX11_init 5 = .ok (.sipush 940, 3) := by decide +kernel
theorem dX11_init_8 : decode cX11_init 8 = .ok (.newarray .int, 2) := by decide +kernel
theorem dX11_init_10 : decode cX11_init 10 = .ok (.putfield 7, 3) := by decide +kernel
theorem dX11_init_13 : decode cX11_init 13 = .ok (.aload_n 0, 1) := by decide +kernel
theorem dX11_init_14 : decode cX11_init 14 = .ok (.sipush 339, 3) := by decide +kernel
theorem dX11_init_17 : decode cX11_init 17 = .ok (.newarray .int, 2) := by decide +kernel
theorem dX11_init_19 : decode cX11_init 19 = .ok (.putfield 98, 3) := by decide +kernel
theorem dX11_init_22 : decode cX11_init 22 = .ok (.aload_n 0, 1) := by decide +kernel
theorem dX11_init_23 : decode cX11_init 23 = .ok (.bipush 64, 2) := by decide +kernel
theorem dX11_init_25 : decode cX11_init 25 = .ok (.newarray .int, 2) := by decide +kernel
theorem dX11_init_27 : decode cX11_init 27 = .ok (.putfield 101, 3) := by decide +kernel
theorem dX11_init_30 : decode cX11_init 30 = .ok (.aload_n 0, 1) := by decide +kernel
theorem dX11_init_31 : decode cX11_init 31 = .ok (.sipush 678, 3) := by decide +kernel
theorem dX11_init_34 : decode cX11_init 34 = .ok (.newarray .int, 2) := by decide +kernel
theorem dX11_init_36 : decode cX11_init 36 = .ok (.putfield 104, 3) := by decide +kernel
theorem dX11_init_39 : decode cX11_init 39 = .ok (.aload_n 0, 1) := by decide +kernel
theorem dX11_init_40 : decode cX11_init 40 = .ok (.sipush 264, 3) := by decide +kernel
theorem dX11_init_43 : decode cX11_init 43 = .ok (.newarray .int, 2) := by decide +kernel
theorem dX11_init_45 : decode cX11_init 45 = .ok (.putfield 107, 3) := by decide +kernel
theorem dX11_init_48 : decode cX11_init 48 = .ok (.aload_n 0, 1) := by decide +kernel
theorem dX11_init_49 : decode cX11_init 49 = .ok (.bipush 33, 2) := by decide +kernel
theorem dX11_init_51 : decode cX11_init 51 = .ok (.newarray .int, 2) := by decide +kernel
theorem dX11_init_53 : decode cX11_init 53 = .ok (.putfield 110, 3) := by decide +kernel
theorem dX11_init_56 : decode cX11_init 56 = .ok (.aload_n 0, 1) := by decide +kernel
theorem dX11_init_57 : decode cX11_init 57 = .ok (.bipush 14, 2) := by decide +kernel
theorem dX11_init_59 : decode cX11_init 59 = .ok (.newarray .long, 2) := by decide +kernel
theorem dX11_init_61 : decode cX11_init 61 = .ok (.putfield 113, 3) := by decide +kernel
theorem dX11_init_64 : decode cX11_init 64 = .ok (.aload_n 0, 1) := by decide +kernel
theorem dX11_init_65 : decode cX11_init 65 = .ok (.bipush 14, 2) := by decide +kernel
theorem dX11_init_67 : decode cX11_init 67 = .ok (.newarray .long, 2) := by decide +kernel
theorem dX11_init_69 : decode cX11_init 69 = .ok (.putfield 117, 3) := by decide +kernel
theorem dX11_init_72 : decode cX11_init 72 = .ok (.aload_n 0, 1) := by decide +kernel
theorem dX11_init_73 : decode cX11_init 73 = .ok (.bipush 28, 2) := by decide +kernel
theorem dX11_init_75 : decode cX11_init 75 = .ok (.newarray .long, 2) := by decide +kernel
theorem dX11_init_77 : decode cX11_init 77 = .ok (.putfield 120, 3) := by decide +kernel
theorem dX11_init_80 : decode cX11_init 80 = .ok (.aload_n 0, 1) := by decide +kernel
theorem dX11_init_81 : decode cX11_init 81 = .ok (.iconst 2, 1) := by decide +kernel
theorem dX11_init_82 : decode cX11_init 82 = .ok (.newarray .boolean, 2) := by decide +kernel
theorem dX11_init_84 : decode cX11_init 84 = .ok (.putfield 123, 3) := by decide +kernel
theorem dX11_init_87 : decode cX11_init 87 = .ok (.aload_n 0, 1) := by decide +kernel
theorem dX11_init_88 : decode cX11_init 88 = .ok (.iconst 3, 1) := by decide +kernel
theorem dX11_init_89 : decode cX11_init 89 = .ok (.newarray .boolean, 2) := by decide +kernel
theorem dX11_init_91 : decode cX11_init 91 = .ok (.putfield 127, 3) := by decide +kernel
theorem dX11_init_94 : decode cX11_init 94 = .ok (.aload_n 0, 1) := by decide +kernel
theorem dX11_init_95 : decode cX11_init 95 = .ok (.bipush 6, 2) := by decide +kernel
theorem dX11_init_97 : decode cX11_init 97 = .ok (.newarray .int, 2) := by decide +kernel
theorem dX11_init_99 : decode cX11_init 99 = .ok (.putfield 130, 3) := by decide +kernel
theorem dX11_init_102 : decode cX11_init 102 = .ok (.aload_n 0, 1) := by decide +kernel
theorem dX11_init_103 : decode cX11_init 103 = .ok (.bipush 6, 2) := by decide +kernel
theorem dX11_init_105 : decode cX11_init 105 = .ok (.newarray .int, 2) := by decide +kernel
theorem dX11_init_107 : decode cX11_init 107 = .ok (.putfield 133, 3) := by decide +kernel
theorem dX11_init_110 : decode cX11_init 110 = .ok (.aload_n 0, 1) := by decide +kernel
theorem dX11_init_111 : decode cX11_init 111 = .ok (.iconst (-1), 1) := by decide +kernel
theorem dX11_init_112 : decode cX11_init 112 = .ok (.putfield 136, 3) := by decide +kernel
theorem dX11_init_115 : decode cX11_init 115 = .ok (.aload_n 0, 1) := by decide +kernel
theorem dX11_init_116 : decode cX11_init 116 = .ok (.iconst (-1), 1) := by decide +kernel
theorem dX11_init_117 : decode cX11_init 117 = .ok (.putfield 139, 3) := by decide +kernel
theorem dX11_init_120 : decode cX11_init 120 = .ok (.aload_n 0, 1) := by decide +kernel
theorem dX11_init_121 : decode cX11_init 121 = .ok (.bipush 64, 2) := by decide +kernel
theorem dX11_init_123 : decode cX11_init 123 = .ok (.newarray .int, 2) := by decide +kernel
theorem dX11_init_125 : decode cX11_init 125 = .ok (.putfield 142, 3) := by decide +kernel
theorem dX11_init_128 : decode cX11_init 128 = .ok (.aload_n 0, 1) := by decide +kernel
theorem dX11_init_129 : decode cX11_init 129 = .ok (.bipush 120, 2) := by decide +kernel
theorem dX11_init_131 : decode cX11_init 131 = .ok (.newarray .int, 2) := by decide +kernel
theorem dX11_init_133 : decode cX11_init 133 = .ok (.putfield 145, 3) := by decide +kernel
theorem dX11_init_136 : decode cX11_init 136 = .ok (.aload_n 0, 1) := by decide +kernel
theorem dX11_init_137 : decode cX11_init 137 = .ok (.iconst 4, 1) := by decide +kernel
theorem dX11_init_138 : decode cX11_init 138 = .ok (.newarray .int, 2) := by decide +kernel
theorem dX11_init_140 : decode cX11_init 140 = .ok (.putfield 148, 3) := by decide +kernel
theorem dX11_init_143 : decode cX11_init 143 = .ok (.aload_n 0, 1) := by decide +kernel
theorem dX11_init_144 : decode cX11_init 144 = .ok (.sipush 240, 3) := by decide +kernel
theorem dX11_init_147 : decode cX11_init 147 = .ok (.newarray .int, 2) := by decide +kernel
theorem dX11_init_149 : decode cX11_init 149 = .ok (.putfield 151, 3) := by decide +kernel
theorem dX11_init_152 : decode cX11_init 152 = .ok (.aload_n 0, 1) := by decide +kernel
theorem dX11_init_153 : decode cX11_init 153 = .ok (.invokevirtual 154, 3) := by decide +kernel
theorem mwX11_startRead : MwV yX11_startRead cX11_startRead 2 none 0 := ⟨⟨kw1192, kw15, by decide +kernel⟩, kw1191, kS44⟩
theorem dX11_init_156 : decode cX11_init 156 = .ok (.iconst 0, 1) := by decide +kernel
theorem dX11_init_157 : decode cX11_init 157 = .ok (.istore_n 1, 1) := by decide +kernel
theorem dX11_init_158 : decode cX11_init 158 = .ok (.iload_n 1, 1) := by decide +kernel
theorem dX11_init_159 : decode cX11_init 159 = .ok (.bipush 64, 2) := by decide +kernel
theorem dX11_init_161 : decode cX11_init 161 = .ok (.if_icmp .ge 21, 3) := by decide +kernel
theorem dX11_init_182 : decode cX11_init 182 = .ok (.return_, 1) := by decide +kernel
theorem dX11_init_164 : decode cX11_init 164 = .ok (.aload_n 0, 1) := by decide +kernel
theorem dX11_init_165 : decode cX11_init 165 = .ok (.getfield 98, 3) := by decide +kernel
theorem dX11_init_168 : decode cX11_init 168 = .ok (.iload_n 1, 1) := by decide +kernel
theorem dX11_init_169 : decode cX11_init 169 = .ok (.aload_n 0, 1) := by decide +kernel
theorem dX11_init_170 : decode cX11_init 170 = .ok (.getfield 101, 3) := by decide +kernel
theorem dX11_init_173 : decode cX11_init 173 = .ok (.iload_n 1, 1) := by decide +kernel
theorem dX11_init_174 : decode cX11_init 174 = .ok (.iaload, 1) := by decide +kernel
theorem dX11_init_175 : decode cX11_init 175 = .ok (.iastore, 1) := by decide +kernel
theorem dX11_init_176 : decode cX11_init 176 = .ok (.iinc 1 1, 3) := by decide +kernel
theorem dX11_init_179 : decode cX11_init 179 = .ok (.goto (-21), 3) := by decide +kernel
-- the reference
set_option maxHeartbeats 4000000 in
set_option maxRecDepth 100000 in
theorem c_X11_init {l : Launch} {G : Gc} (qm : Nat)  : Cv l yX11_init cX11_init 2 1 17 2819 G [.ref qm] [(qm, .inr (10, [.int 0, .null, .int 0, .int 0, .int 0, .int 0, .int 0, .int 0, .int 0, .int 0, .int 0, .int 0, .long 0, .int 0, .null, .null, .null, .null, .null, .null, .null, .null, .null, .null, .int 0, .null, .null, .int 0, .int 0, .int 0, .int 0, .int 0, .null, .int 0, .int 0, .null, .null, .int 0, .int 0, .null, .int 0, .int 0, .int 0, .int 0]))] (fun (u9 : va_W) => ∃ (am : Nat → Nat) , u9 = [(qm, .inr (10, [.int 0, .ref (am 0), .int 0, .int 0, .int 0, .int 0, .int 0, .int 0, .int 0, .int 0, .int 0, .int 0, .long 0, .int 0, .ref (am 1), .ref (am 2), .ref (am 3), .ref (am 4), .ref (am 5), .ref (am 6), .ref (am 7), .ref (am 8), .ref (am 9), .ref (am 10), .int 0, .ref (am 11), .ref (am 12), .int 0, .int 0, .int 0, .int (-1), .int (-1), .ref (am 13), .int 0, .int 0, .ref (am 14), .ref (am 15), .int 0, .int 0, .ref (am 16), .int 0, .int 0, .int 0, .int 0])), ((am 0), eI G 940 (fun _ => 0)), ((am 1), eI G 339 nw0), ((am 2), eI G 64 rd0), ((am 3), eI G 678 (fun _ => 0)), ((am 4), eI G 264 (fun _ => 0)), ((am 5), eI G 33 (fun _ => 0)), ((am 6), eJ G 14 (fun _ => 0)), ((am 7), eJ G 14 (fun _ => 0)), ((am 8), eJ G 28 (fun _ => 0)), ((am 9), eZ G 2 (fun _ => 0)), ((am 10), eZ G 3 (fun _ => 0)), ((am 11), eI G 6 (fun _ => 0)), ((am 12), eI G 6 (fun _ => 0)), ((am 13), eI G 64 (fun _ => 0)), ((am 14), eI G 120 (fun _ => 0)), ((am 15), eI G 4 (fun _ => 0)), ((am 16), eI G 240 (fun _ => 0))]) := by
  refine Cv.of (by decide) (Nat.le_of_ble_eq_true rfl) ?_
  intro p e s m below meth c ls A B hw hl
  have C : CallFix p m c cX11_init 2 s _ gw "LanternStateModel" := B.1
  have hl : lv_has ls 2 [(0, .ref qm)] := hl
  refine lv_aload_n C.1 C.2.1 dX11_init_0 rfl (lv_at hl 0 rfl) ?_
  refine x_objInit C kw1188 hl.1 (Nat.le_of_ble_eq_true rfl) (Nat.le_of_ble_eq_true rfl) dX11_init_1 ?_
  refine lv_aload_n C.1 C.2.1 dX11_init_4 rfl (lv_at hl 0 rfl) ?_
  refine lv_sipush (v := 940) C.1 C.2.1 dX11_init_5 (by decide) ?_
  refine x_newa (a0 := (940, .inl (fun _ => 0))) (N := 940) C hw (atype := .int) rfl 2 rfl kw230 (fun _ => rfl) (by decide) (by decide) (Nat.le_of_ble_eq_true rfl) (Nat.le_of_ble_eq_true rfl) (Nat.le_of_ble_eq_true rfl) dX11_init_8 (fun q1 H hw => ?_)
  have hw : Wd G s A [(qm, .inr (10, [.int 0, .null, .int 0, .int 0, .int 0, .int 0, .int 0, .int 0, .int 0, .int 0, .int 0, .int 0, .long 0, .int 0, .null, .null, .null, .null, .null, .null, .null, .null, .null, .null, .int 0, .null, .null, .int 0, .int 0, .int 0, .int 0, .int 0, .null, .int 0, .int 0, .null, .null, .int 0, .int 0, .null, .int 0, .int 0, .int 0, .int 0])), (q1, eI G 940 (fun _ => 0))] H _ := hw
  refine W.widen (k := 1) (n := 940) (Nat.le_of_ble_eq_true rfl) (Nat.le_of_ble_eq_true rfl) ?_
  refine x_putF (w' := [(qm, .inr (10, [.int 0, .ref q1, .int 0, .int 0, .int 0, .int 0, .int 0, .int 0, .int 0, .int 0, .int 0, .int 0, .long 0, .int 0, .null, .null, .null, .null, .null, .null, .null, .null, .null, .null, .int 0, .null, .null, .int 0, .int 0, .int 0, .int 0, .int 0, .null, .int 0, .int 0, .null, .null, .int 0, .int 0, .null, .int 0, .int 0, .int 0, .int 0])), (q1, eI G 940 (fun _ => 0))]) C hw iwX11 tyX11_ok nmX11 B.2.2.2 10 rfl 0 rfl 1 (by decide) kw1194 rfl rfl rfl rfl (Nat.le_of_ble_eq_true rfl) rfl dX11_init_10 (fun H locs hw => ?_)
  refine lv_aload_n C.1 C.2.1 dX11_init_13 rfl (lv_at hl 0 rfl) ?_
  refine lv_sipush (v := 339) C.1 C.2.1 dX11_init_14 (by decide) ?_
  refine x_newa (a0 := (339, .inl (fun _ => 0))) (N := 339) C hw (atype := .int) rfl 2 rfl kw230 (fun _ => rfl) (by decide) (by decide) (Nat.le_of_ble_eq_true rfl) (Nat.le_of_ble_eq_true rfl) (Nat.le_of_ble_eq_true rfl) dX11_init_17 (fun q2 H hw => ?_)
  have hw : Wd G s A [(qm, .inr (10, [.int 0, .ref q1, .int 0, .int 0, .int 0, .int 0, .int 0, .int 0, .int 0, .int 0, .int 0, .int 0, .long 0, .int 0, .null, .null, .null, .null, .null, .null, .null, .null, .null, .null, .int 0, .null, .null, .int 0, .int 0, .int 0, .int 0, .int 0, .null, .int 0, .int 0, .null, .null, .int 0, .int 0, .null, .int 0, .int 0, .int 0, .int 0])), (q1, eI G 940 (fun _ => 0)), (q2, eI G 339 (fun _ => 0))] H _ := hw
  refine W.widen (k := 2) (n := 1279) (Nat.le_of_ble_eq_true rfl) (Nat.le_of_ble_eq_true rfl) ?_
  refine x_putF (w' := [(qm, .inr (10, [.int 0, .ref q1, .int 0, .int 0, .int 0, .int 0, .int 0, .int 0, .int 0, .int 0, .int 0, .int 0, .long 0, .int 0, .ref q2, .null, .null, .null, .null, .null, .null, .null, .null, .null, .int 0, .null, .null, .int 0, .int 0, .int 0, .int 0, .int 0, .null, .int 0, .int 0, .null, .null, .int 0, .int 0, .null, .int 0, .int 0, .int 0, .int 0])), (q1, eI G 940 (fun _ => 0)), (q2, eI G 339 (fun _ => 0))]) C hw iwX11 tyX11_ok nmX11 B.2.2.2 10 rfl 0 rfl 14 (by decide) kw1207 rfl rfl rfl rfl (Nat.le_of_ble_eq_true rfl) rfl dX11_init_19 (fun H locs hw => ?_)
  refine lv_aload_n C.1 C.2.1 dX11_init_22 rfl (lv_at hl 0 rfl) ?_
  refine lv_bipush (v := 64) C.1 C.2.1 dX11_init_23 (by decide) ?_
  refine x_newa (a0 := (64, .inl (fun _ => 0))) (N := 64) C hw (atype := .int) rfl 2 rfl kw230 (fun _ => rfl) (by decide) (by decide) (Nat.le_of_ble_eq_true rfl) (Nat.le_of_ble_eq_true rfl) (Nat.le_of_ble_eq_true rfl) dX11_init_25 (fun q3 H hw => ?_)
  have hw : Wd G s A [(qm, .inr (10, [.int 0, .ref q1, .int 0, .int 0, .int 0, .int 0, .int 0, .int 0, .int 0, .int 0, .int 0, .int 0, .long 0, .int 0, .ref q2, .null, .null, .null, .null, .null, .null, .null, .null, .null, .int 0, .null, .null, .int 0, .int 0, .int 0, .int 0, .int 0, .null, .int 0, .int 0, .null, .null, .int 0, .int 0, .null, .int 0, .int 0, .int 0, .int 0])), (q1, eI G 940 (fun _ => 0)), (q2, eI G 339 (fun _ => 0)), (q3, eI G 64 (fun _ => 0))] H _ := hw
  refine W.widen (k := 3) (n := 1343) (Nat.le_of_ble_eq_true rfl) (Nat.le_of_ble_eq_true rfl) ?_
  refine x_putF (w' := [(qm, .inr (10, [.int 0, .ref q1, .int 0, .int 0, .int 0, .int 0, .int 0, .int 0, .int 0, .int 0, .int 0, .int 0, .long 0, .int 0, .ref q2, .ref q3, .null, .null, .null, .null, .null, .null, .null, .null, .int 0, .null, .null, .int 0, .int 0, .int 0, .int 0, .int 0, .null, .int 0, .int 0, .null, .null, .int 0, .int 0, .null, .int 0, .int 0, .int 0, .int 0])), (q1, eI G 940 (fun _ => 0)), (q2, eI G 339 (fun _ => 0)), (q3, eI G 64 (fun _ => 0))]) C hw iwX11 tyX11_ok nmX11 B.2.2.2 10 rfl 0 rfl 15 (by decide) kw1208 rfl rfl rfl rfl (Nat.le_of_ble_eq_true rfl) rfl dX11_init_27 (fun H locs hw => ?_)
  refine lv_aload_n C.1 C.2.1 dX11_init_30 rfl (lv_at hl 0 rfl) ?_
  refine lv_sipush (v := 678) C.1 C.2.1 dX11_init_31 (by decide) ?_
  refine x_newa (a0 := (678, .inl (fun _ => 0))) (N := 678) C hw (atype := .int) rfl 2 rfl kw230 (fun _ => rfl) (by decide) (by decide) (Nat.le_of_ble_eq_true rfl) (Nat.le_of_ble_eq_true rfl) (Nat.le_of_ble_eq_true rfl) dX11_init_34 (fun q4 H hw => ?_)
  have hw : Wd G s A [(qm, .inr (10, [.int 0, .ref q1, .int 0, .int 0, .int 0, .int 0, .int 0, .int 0, .int 0, .int 0, .int 0, .int 0, .long 0, .int 0, .ref q2, .ref q3, .null, .null, .null, .null, .null, .null, .null, .null, .int 0, .null, .null, .int 0, .int 0, .int 0, .int 0, .int 0, .null, .int 0, .int 0, .null, .null, .int 0, .int 0, .null, .int 0, .int 0, .int 0, .int 0])), (q1, eI G 940 (fun _ => 0)), (q2, eI G 339 (fun _ => 0)), (q3, eI G 64 (fun _ => 0)), (q4, eI G 678 (fun _ => 0))] H _ := hw
  refine W.widen (k := 4) (n := 2021) (Nat.le_of_ble_eq_true rfl) (Nat.le_of_ble_eq_true rfl) ?_
  refine x_putF (w' := [(qm, .inr (10, [.int 0, .ref q1, .int 0, .int 0, .int 0, .int 0, .int 0, .int 0, .int 0, .int 0, .int 0, .int 0, .long 0, .int 0, .ref q2, .ref q3, .ref q4, .null, .null, .null, .null, .null, .null, .null, .int 0, .null, .null, .int 0, .int 0, .int 0, .int 0, .int 0, .null, .int 0, .int 0, .null, .null, .int 0, .int 0, .null, .int 0, .int 0, .int 0, .int 0])), (q1, eI G 940 (fun _ => 0)), (q2, eI G 339 (fun _ => 0)), (q3, eI G 64 (fun _ => 0)), (q4, eI G 678 (fun _ => 0))]) C hw iwX11 tyX11_ok nmX11 B.2.2.2 10 rfl 0 rfl 16 (by decide) kw1209 rfl rfl rfl rfl (Nat.le_of_ble_eq_true rfl) rfl dX11_init_36 (fun H locs hw => ?_)
  refine lv_aload_n C.1 C.2.1 dX11_init_39 rfl (lv_at hl 0 rfl) ?_
  refine lv_sipush (v := 264) C.1 C.2.1 dX11_init_40 (by decide) ?_
  refine x_newa (a0 := (264, .inl (fun _ => 0))) (N := 264) C hw (atype := .int) rfl 2 rfl kw230 (fun _ => rfl) (by decide) (by decide) (Nat.le_of_ble_eq_true rfl) (Nat.le_of_ble_eq_true rfl) (Nat.le_of_ble_eq_true rfl) dX11_init_43 (fun q5 H hw => ?_)
  have hw : Wd G s A [(qm, .inr (10, [.int 0, .ref q1, .int 0, .int 0, .int 0, .int 0, .int 0, .int 0, .int 0, .int 0, .int 0, .int 0, .long 0, .int 0, .ref q2, .ref q3, .ref q4, .null, .null, .null, .null, .null, .null, .null, .int 0, .null, .null, .int 0, .int 0, .int 0, .int 0, .int 0, .null, .int 0, .int 0, .null, .null, .int 0, .int 0, .null, .int 0, .int 0, .int 0, .int 0])), (q1, eI G 940 (fun _ => 0)), (q2, eI G 339 (fun _ => 0)), (q3, eI G 64 (fun _ => 0)), (q4, eI G 678 (fun _ => 0)), (q5, eI G 264 (fun _ => 0))] H _ := hw
  refine W.widen (k := 5) (n := 2285) (Nat.le_of_ble_eq_true rfl) (Nat.le_of_ble_eq_true rfl) ?_
  refine x_putF (w' := [(qm, .inr (10, [.int 0, .ref q1, .int 0, .int 0, .int 0, .int 0, .int 0, .int 0, .int 0, .int 0, .int 0, .int 0, .long 0, .int 0, .ref q2, .ref q3, .ref q4, .ref q5, .null, .null, .null, .null, .null, .null, .int 0, .null, .null, .int 0, .int 0, .int 0, .int 0, .int 0, .null, .int 0, .int 0, .null, .null, .int 0, .int 0, .null, .int 0, .int 0, .int 0, .int 0])), (q1, eI G 940 (fun _ => 0)), (q2, eI G 339 (fun _ => 0)), (q3, eI G 64 (fun _ => 0)), (q4, eI G 678 (fun _ => 0)), (q5, eI G 264 (fun _ => 0))]) C hw iwX11 tyX11_ok nmX11 B.2.2.2 10 rfl 0 rfl 17 (by decide) kw1210 rfl rfl rfl rfl (Nat.le_of_ble_eq_true rfl) rfl dX11_init_45 (fun H locs hw => ?_)
  refine lv_aload_n C.1 C.2.1 dX11_init_48 rfl (lv_at hl 0 rfl) ?_
  refine lv_bipush (v := 33) C.1 C.2.1 dX11_init_49 (by decide) ?_
  refine x_newa (a0 := (33, .inl (fun _ => 0))) (N := 33) C hw (atype := .int) rfl 2 rfl kw230 (fun _ => rfl) (by decide) (by decide) (Nat.le_of_ble_eq_true rfl) (Nat.le_of_ble_eq_true rfl) (Nat.le_of_ble_eq_true rfl) dX11_init_51 (fun q6 H hw => ?_)
  have hw : Wd G s A [(qm, .inr (10, [.int 0, .ref q1, .int 0, .int 0, .int 0, .int 0, .int 0, .int 0, .int 0, .int 0, .int 0, .int 0, .long 0, .int 0, .ref q2, .ref q3, .ref q4, .ref q5, .null, .null, .null, .null, .null, .null, .int 0, .null, .null, .int 0, .int 0, .int 0, .int 0, .int 0, .null, .int 0, .int 0, .null, .null, .int 0, .int 0, .null, .int 0, .int 0, .int 0, .int 0])), (q1, eI G 940 (fun _ => 0)), (q2, eI G 339 (fun _ => 0)), (q3, eI G 64 (fun _ => 0)), (q4, eI G 678 (fun _ => 0)), (q5, eI G 264 (fun _ => 0)), (q6, eI G 33 (fun _ => 0))] H _ := hw
  refine W.widen (k := 6) (n := 2318) (Nat.le_of_ble_eq_true rfl) (Nat.le_of_ble_eq_true rfl) ?_
  refine x_putF (w' := [(qm, .inr (10, [.int 0, .ref q1, .int 0, .int 0, .int 0, .int 0, .int 0, .int 0, .int 0, .int 0, .int 0, .int 0, .long 0, .int 0, .ref q2, .ref q3, .ref q4, .ref q5, .ref q6, .null, .null, .null, .null, .null, .int 0, .null, .null, .int 0, .int 0, .int 0, .int 0, .int 0, .null, .int 0, .int 0, .null, .null, .int 0, .int 0, .null, .int 0, .int 0, .int 0, .int 0])), (q1, eI G 940 (fun _ => 0)), (q2, eI G 339 (fun _ => 0)), (q3, eI G 64 (fun _ => 0)), (q4, eI G 678 (fun _ => 0)), (q5, eI G 264 (fun _ => 0)), (q6, eI G 33 (fun _ => 0))]) C hw iwX11 tyX11_ok nmX11 B.2.2.2 10 rfl 0 rfl 18 (by decide) kw1211 rfl rfl rfl rfl (Nat.le_of_ble_eq_true rfl) rfl dX11_init_53 (fun H locs hw => ?_)
  refine lv_aload_n C.1 C.2.1 dX11_init_56 rfl (lv_at hl 0 rfl) ?_
  refine lv_bipush (v := 14) C.1 C.2.1 dX11_init_57 (by decide) ?_
  refine x_newa (a0 := (14, .inr (.inl (fun _ => 0)))) (N := 14) C hw (atype := .long) rfl 3 rfl kw139 (fun _ => rfl) (by decide) (by decide) (Nat.le_of_ble_eq_true rfl) (Nat.le_of_ble_eq_true rfl) (Nat.le_of_ble_eq_true rfl) dX11_init_59 (fun q7 H hw => ?_)
  have hw : Wd G s A [(qm, .inr (10, [.int 0, .ref q1, .int 0, .int 0, .int 0, .int 0, .int 0, .int 0, .int 0, .int 0, .int 0, .int 0, .long 0, .int 0, .ref q2, .ref q3, .ref q4, .ref q5, .ref q6, .null, .null, .null, .null, .null, .int 0, .null, .null, .int 0, .int 0, .int 0, .int 0, .int 0, .null, .int 0, .int 0, .null, .null, .int 0, .int 0, .null, .int 0, .int 0, .int 0, .int 0])), (q1, eI G 940 (fun _ => 0)), (q2, eI G 339 (fun _ => 0)), (q3, eI G 64 (fun _ => 0)), (q4, eI G 678 (fun _ => 0)), (q5, eI G 264 (fun _ => 0)), (q6, eI G 33 (fun _ => 0)), (q7, eJ G 14 (fun _ => 0))] H _ := hw
  refine W.widen (k := 7) (n := 2332) (Nat.le_of_ble_eq_true rfl) (Nat.le_of_ble_eq_true rfl) ?_
  refine x_putF (w' := [(qm, .inr (10, [.int 0, .ref q1, .int 0, .int 0, .int 0, .int 0, .int 0, .int 0, .int 0, .int 0, .int 0, .int 0, .long 0, .int 0, .ref q2, .ref q3, .ref q4, .ref q5, .ref q6, .ref q7, .null, .null, .null, .null, .int 0, .null, .null, .int 0, .int 0, .int 0, .int 0, .int 0, .null, .int 0, .int 0, .null, .null, .int 0, .int 0, .null, .int 0, .int 0, .int 0, .int 0])), (q1, eI G 940 (fun _ => 0)), (q2, eI G 339 (fun _ => 0)), (q3, eI G 64 (fun _ => 0)), (q4, eI G 678 (fun _ => 0)), (q5, eI G 264 (fun _ => 0)), (q6, eI G 33 (fun _ => 0)), (q7, eJ G 14 (fun _ => 0))]) C hw iwX11 tyX11_ok nmX11 B.2.2.2 10 rfl 0 rfl 19 (by decide) kw1212 rfl rfl rfl rfl (Nat.le_of_ble_eq_true rfl) rfl dX11_init_61 (fun H locs hw => ?_)
  refine lv_aload_n C.1 C.2.1 dX11_init_64 rfl (lv_at hl 0 rfl) ?_
  refine lv_bipush (v := 14) C.1 C.2.1 dX11_init_65 (by decide) ?_
  refine x_newa (a0 := (14, .inr (.inl (fun _ => 0)))) (N := 14) C hw (atype := .long) rfl 3 rfl kw139 (fun _ => rfl) (by decide) (by decide) (Nat.le_of_ble_eq_true rfl) (Nat.le_of_ble_eq_true rfl) (Nat.le_of_ble_eq_true rfl) dX11_init_67 (fun q8 H hw => ?_)
  have hw : Wd G s A [(qm, .inr (10, [.int 0, .ref q1, .int 0, .int 0, .int 0, .int 0, .int 0, .int 0, .int 0, .int 0, .int 0, .int 0, .long 0, .int 0, .ref q2, .ref q3, .ref q4, .ref q5, .ref q6, .ref q7, .null, .null, .null, .null, .int 0, .null, .null, .int 0, .int 0, .int 0, .int 0, .int 0, .null, .int 0, .int 0, .null, .null, .int 0, .int 0, .null, .int 0, .int 0, .int 0, .int 0])), (q1, eI G 940 (fun _ => 0)), (q2, eI G 339 (fun _ => 0)), (q3, eI G 64 (fun _ => 0)), (q4, eI G 678 (fun _ => 0)), (q5, eI G 264 (fun _ => 0)), (q6, eI G 33 (fun _ => 0)), (q7, eJ G 14 (fun _ => 0)), (q8, eJ G 14 (fun _ => 0))] H _ := hw
  refine W.widen (k := 8) (n := 2346) (Nat.le_of_ble_eq_true rfl) (Nat.le_of_ble_eq_true rfl) ?_
  refine x_putF (w' := [(qm, .inr (10, [.int 0, .ref q1, .int 0, .int 0, .int 0, .int 0, .int 0, .int 0, .int 0, .int 0, .int 0, .int 0, .long 0, .int 0, .ref q2, .ref q3, .ref q4, .ref q5, .ref q6, .ref q7, .ref q8, .null, .null, .null, .int 0, .null, .null, .int 0, .int 0, .int 0, .int 0, .int 0, .null, .int 0, .int 0, .null, .null, .int 0, .int 0, .null, .int 0, .int 0, .int 0, .int 0])), (q1, eI G 940 (fun _ => 0)), (q2, eI G 339 (fun _ => 0)), (q3, eI G 64 (fun _ => 0)), (q4, eI G 678 (fun _ => 0)), (q5, eI G 264 (fun _ => 0)), (q6, eI G 33 (fun _ => 0)), (q7, eJ G 14 (fun _ => 0)), (q8, eJ G 14 (fun _ => 0))]) C hw iwX11 tyX11_ok nmX11 B.2.2.2 10 rfl 0 rfl 20 (by decide) kw1213 rfl rfl rfl rfl (Nat.le_of_ble_eq_true rfl) rfl dX11_init_69 (fun H locs hw => ?_)
  refine lv_aload_n C.1 C.2.1 dX11_init_72 rfl (lv_at hl 0 rfl) ?_
  refine lv_bipush (v := 28) C.1 C.2.1 dX11_init_73 (by decide) ?_
  refine x_newa (a0 := (28, .inr (.inl (fun _ => 0)))) (N := 28) C hw (atype := .long) rfl 3 rfl kw139 (fun _ => rfl) (by decide) (by decide) (Nat.le_of_ble_eq_true rfl) (Nat.le_of_ble_eq_true rfl) (Nat.le_of_ble_eq_true rfl) dX11_init_75 (fun q9 H hw => ?_)
  have hw : Wd G s A [(qm, .inr (10, [.int 0, .ref q1, .int 0, .int 0, .int 0, .int 0, .int 0, .int 0, .int 0, .int 0, .int 0, .int 0, .long 0, .int 0, .ref q2, .ref q3, .ref q4, .ref q5, .ref q6, .ref q7, .ref q8, .null, .null, .null, .int 0, .null, .null, .int 0, .int 0, .int 0, .int 0, .int 0, .null, .int 0, .int 0, .null, .null, .int 0, .int 0, .null, .int 0, .int 0, .int 0, .int 0])), (q1, eI G 940 (fun _ => 0)), (q2, eI G 339 (fun _ => 0)), (q3, eI G 64 (fun _ => 0)), (q4, eI G 678 (fun _ => 0)), (q5, eI G 264 (fun _ => 0)), (q6, eI G 33 (fun _ => 0)), (q7, eJ G 14 (fun _ => 0)), (q8, eJ G 14 (fun _ => 0)), (q9, eJ G 28 (fun _ => 0))] H _ := hw
  refine W.widen (k := 9) (n := 2374) (Nat.le_of_ble_eq_true rfl) (Nat.le_of_ble_eq_true rfl) ?_
  refine x_putF (w' := [(qm, .inr (10, [.int 0, .ref q1, .int 0, .int 0, .int 0, .int 0, .int 0, .int 0, .int 0, .int 0, .int 0, .int 0, .long 0, .int 0, .ref q2, .ref q3, .ref q4, .ref q5, .ref q6, .ref q7, .ref q8, .ref q9, .null, .null, .int 0, .null, .null, .int 0, .int 0, .int 0, .int 0, .int 0, .null, .int 0, .int 0, .null, .null, .int 0, .int 0, .null, .int 0, .int 0, .int 0, .int 0])), (q1, eI G 940 (fun _ => 0)), (q2, eI G 339 (fun _ => 0)), (q3, eI G 64 (fun _ => 0)), (q4, eI G 678 (fun _ => 0)), (q5, eI G 264 (fun _ => 0)), (q6, eI G 33 (fun _ => 0)), (q7, eJ G 14 (fun _ => 0)), (q8, eJ G 14 (fun _ => 0)), (q9, eJ G 28 (fun _ => 0))]) C hw iwX11 tyX11_ok nmX11 B.2.2.2 10 rfl 0 rfl 21 (by decide) kw1214 rfl rfl rfl rfl (Nat.le_of_ble_eq_true rfl) rfl dX11_init_77 (fun H locs hw => ?_)
  refine lv_aload_n C.1 C.2.1 dX11_init_80 rfl (lv_at hl 0 rfl) ?_
  refine lv_iconst (v := 2) C.1 C.2.1 dX11_init_81 (by decide) ?_
  refine x_newa (a0 := (2, .inl (fun _ => 0))) (N := 2) C hw (atype := .boolean) rfl 4 rfl kw1326 (fun _ => rfl) (by decide) (by decide) (Nat.le_of_ble_eq_true rfl) (Nat.le_of_ble_eq_true rfl) (Nat.le_of_ble_eq_true rfl) dX11_init_82 (fun q10 H hw => ?_)
  have hw : Wd G s A [(qm, .inr (10, [.int 0, .ref q1, .int 0, .int 0, .int 0, .int 0, .int 0, .int 0, .int 0, .int 0, .int 0, .int 0, .long 0, .int 0, .ref q2, .ref q3, .ref q4, .ref q5, .ref q6, .ref q7, .ref q8, .ref q9, .null, .null, .int 0, .null, .null, .int 0, .int 0, .int 0, .int 0, .int 0, .null, .int 0, .int 0, .null, .null, .int 0, .int 0, .null, .int 0, .int 0, .int 0, .int 0])), (q1, eI G 940 (fun _ => 0)), (q2, eI G 339 (fun _ => 0)), (q3, eI G 64 (fun _ => 0)), (q4, eI G 678 (fun _ => 0)), (q5, eI G 264 (fun _ => 0)), (q6, eI G 33 (fun _ => 0)), (q7, eJ G 14 (fun _ => 0)), (q8, eJ G 14 (fun _ => 0)), (q9, eJ G 28 (fun _ => 0)), (q10, eZ G 2 (fun _ => 0))] H _ := hw
  refine W.widen (k := 10) (n := 2376) (Nat.le_of_ble_eq_true rfl) (Nat.le_of_ble_eq_true rfl) ?_
  refine x_putF (w' := [(qm, .inr (10, [.int 0, .ref q1, .int 0, .int 0, .int 0, .int 0, .int 0, .int 0, .int 0, .int 0, .int 0, .int 0, .long 0, .int 0, .ref q2, .ref q3, .ref q4, .ref q5, .ref q6, .ref q7, .ref q8, .ref q9, .ref q10, .null, .int 0, .null, .null, .int 0, .int 0, .int 0, .int 0, .int 0, .null, .int 0, .int 0, .null, .null, .int 0, .int 0, .null, .int 0, .int 0, .int 0, .int 0])), (q1, eI G 940 (fun _ => 0)), (q2, eI G 339 (fun _ => 0)), (q3, eI G 64 (fun _ => 0)), (q4, eI G 678 (fun _ => 0)), (q5, eI G 264 (fun _ => 0)), (q6, eI G 33 (fun _ => 0)), (q7, eJ G 14 (fun _ => 0)), (q8, eJ G 14 (fun _ => 0)), (q9, eJ G 28 (fun _ => 0)), (q10, eZ G 2 (fun _ => 0))]) C hw iwX11 tyX11_ok nmX11 B.2.2.2 10 rfl 0 rfl 22 (by decide) kw1215 rfl rfl rfl rfl (Nat.le_of_ble_eq_true rfl) rfl dX11_init_84 (fun H locs hw => ?_)
  refine lv_aload_n C.1 C.2.1 dX11_init_87 rfl (lv_at hl 0 rfl) ?_
  refine lv_iconst (v := 3) C.1 C.2.1 dX11_init_88 (by decide) ?_
  refine x_newa (a0 := (3, .inl (fun _ => 0))) (N := 3) C hw (atype := .boolean) rfl 4 rfl kw1326 (fun _ => rfl) (by decide) (by decide) (Nat.le_of_ble_eq_true rfl) (Nat.le_of_ble_eq_true rfl) (Nat.le_of_ble_eq_true rfl) dX11_init_89 (fun q11 H hw => ?_)
  have hw : Wd G s A [(qm, .inr (10, [.int 0, .ref q1, .int 0, .int 0, .int 0, .int 0, .int 0, .int 0, .int 0, .int 0, .int 0, .int 0, .long 0, .int 0, .ref q2, .ref q3, .ref q4, .ref q5, .ref q6, .ref q7, .ref q8, .ref q9, .ref q10, .null, .int 0, .null, .null, .int 0, .int 0, .int 0, .int 0, .int 0, .null, .int 0, .int 0, .null, .null, .int 0, .int 0, .null, .int 0, .int 0, .int 0, .int 0])), (q1, eI G 940 (fun _ => 0)), (q2, eI G 339 (fun _ => 0)), (q3, eI G 64 (fun _ => 0)), (q4, eI G 678 (fun _ => 0)), (q5, eI G 264 (fun _ => 0)), (q6, eI G 33 (fun _ => 0)), (q7, eJ G 14 (fun _ => 0)), (q8, eJ G 14 (fun _ => 0)), (q9, eJ G 28 (fun _ => 0)), (q10, eZ G 2 (fun _ => 0)), (q11, eZ G 3 (fun _ => 0))] H _ := hw
  refine W.widen (k := 11) (n := 2379) (Nat.le_of_ble_eq_true rfl) (Nat.le_of_ble_eq_true rfl) ?_
  refine x_putF (w' := [(qm, .inr (10, [.int 0, .ref q1, .int 0, .int 0, .int 0, .int 0, .int 0, .int 0, .int 0, .int 0, .int 0, .int 0, .long 0, .int 0, .ref q2, .ref q3, .ref q4, .ref q5, .ref q6, .ref q7, .ref q8, .ref q9, .ref q10, .ref q11, .int 0, .null, .null, .int 0, .int 0, .int 0, .int 0, .int 0, .null, .int 0, .int 0, .null, .null, .int 0, .int 0, .null, .int 0, .int 0, .int 0, .int 0])), (q1, eI G 940 (fun _ => 0)), (q2, eI G 339 (fun _ => 0)), (q3, eI G 64 (fun _ => 0)), (q4, eI G 678 (fun _ => 0)), (q5, eI G 264 (fun _ => 0)), (q6, eI G 33 (fun _ => 0)), (q7, eJ G 14 (fun _ => 0)), (q8, eJ G 14 (fun _ => 0)), (q9, eJ G 28 (fun _ => 0)), (q10, eZ G 2 (fun _ => 0)), (q11, eZ G 3 (fun _ => 0))]) C hw iwX11 tyX11_ok nmX11 B.2.2.2 10 rfl 0 rfl 23 (by decide) kw1216 rfl rfl rfl rfl (Nat.le_of_ble_eq_true rfl) rfl dX11_init_91 (fun H locs hw => ?_)
  refine lv_aload_n C.1 C.2.1 dX11_init_94 rfl (lv_at hl 0 rfl) ?_
  refine lv_bipush (v := 6) C.1 C.2.1 dX11_init_95 (by decide) ?_
  refine x_newa (a0 := (6, .inl (fun _ => 0))) (N := 6) C hw (atype := .int) rfl 2 rfl kw230 (fun _ => rfl) (by decide) (by decide) (Nat.le_of_ble_eq_true rfl) (Nat.le_of_ble_eq_true rfl) (Nat.le_of_ble_eq_true rfl) dX11_init_97 (fun q12 H hw => ?_)
  have hw : Wd G s A [(qm, .inr (10, [.int 0, .ref q1, .int 0, .int 0, .int 0, .int 0, .int 0, .int 0, .int 0, .int 0, .int 0, .int 0, .long 0, .int 0, .ref q2, .ref q3, .ref q4, .ref q5, .ref q6, .ref q7, .ref q8, .ref q9, .ref q10, .ref q11, .int 0, .null, .null, .int 0, .int 0, .int 0, .int 0, .int 0, .null, .int 0, .int 0, .null, .null, .int 0, .int 0, .null, .int 0, .int 0, .int 0, .int 0])), (q1, eI G 940 (fun _ => 0)), (q2, eI G 339 (fun _ => 0)), (q3, eI G 64 (fun _ => 0)), (q4, eI G 678 (fun _ => 0)), (q5, eI G 264 (fun _ => 0)), (q6, eI G 33 (fun _ => 0)), (q7, eJ G 14 (fun _ => 0)), (q8, eJ G 14 (fun _ => 0)), (q9, eJ G 28 (fun _ => 0)), (q10, eZ G 2 (fun _ => 0)), (q11, eZ G 3 (fun _ => 0)), (q12, eI G 6 (fun _ => 0))] H _ := hw
  refine W.widen (k := 12) (n := 2385) (Nat.le_of_ble_eq_true rfl) (Nat.le_of_ble_eq_true rfl) ?_
  refine x_putF (w' := [(qm, .inr (10, [.int 0, .ref q1, .int 0, .int 0, .int 0, .int 0, .int 0, .int 0, .int 0, .int 0, .int 0, .int 0, .long 0, .int 0, .ref q2, .ref q3, .ref q4, .ref q5, .ref q6, .ref q7, .ref q8, .ref q9, .ref q10, .ref q11, .int 0, .ref q12, .null, .int 0, .int 0, .int 0, .int 0, .int 0, .null, .int 0, .int 0, .null, .null, .int 0, .int 0, .null, .int 0, .int 0, .int 0, .int 0])), (q1, eI G 940 (fun _ => 0)), (q2, eI G 339 (fun _ => 0)), (q3, eI G 64 (fun _ => 0)), (q4, eI G 678 (fun _ => 0)), (q5, eI G 264 (fun _ => 0)), (q6, eI G 33 (fun _ => 0)), (q7, eJ G 14 (fun _ => 0)), (q8, eJ G 14 (fun _ => 0)), (q9, eJ G 28 (fun _ => 0)), (q10, eZ G 2 (fun _ => 0)), (q11, eZ G 3 (fun _ => 0)), (q12, eI G 6 (fun _ => 0))]) C hw iwX11 tyX11_ok nmX11 B.2.2.2 10 rfl 0 rfl 25 (by decide) kw1218 rfl rfl rfl rfl (Nat.le_of_ble_eq_true rfl) rfl dX11_init_99 (fun H locs hw => ?_)
  refine lv_aload_n C.1 C.2.1 dX11_init_102 rfl (lv_at hl 0 rfl) ?_
  refine lv_bipush (v := 6) C.1 C.2.1 dX11_init_103 (by decide) ?_
  refine x_newa (a0 := (6, .inl (fun _ => 0))) (N := 6) C hw (atype := .int) rfl 2 rfl kw230 (fun _ => rfl) (by decide) (by decide) (Nat.le_of_ble_eq_true rfl) (Nat.le_of_ble_eq_true rfl) (Nat.le_of_ble_eq_true rfl) dX11_init_105 (fun q13 H hw => ?_)
  have hw : Wd G s A [(qm, .inr (10, [.int 0, .ref q1, .int 0, .int 0, .int 0, .int 0, .int 0, .int 0, .int 0, .int 0, .int 0, .int 0, .long 0, .int 0, .ref q2, .ref q3, .ref q4, .ref q5, .ref q6, .ref q7, .ref q8, .ref q9, .ref q10, .ref q11, .int 0, .ref q12, .null, .int 0, .int 0, .int 0, .int 0, .int 0, .null, .int 0, .int 0, .null, .null, .int 0, .int 0, .null, .int 0, .int 0, .int 0, .int 0])), (q1, eI G 940 (fun _ => 0)), (q2, eI G 339 (fun _ => 0)), (q3, eI G 64 (fun _ => 0)), (q4, eI G 678 (fun _ => 0)), (q5, eI G 264 (fun _ => 0)), (q6, eI G 33 (fun _ => 0)), (q7, eJ G 14 (fun _ => 0)), (q8, eJ G 14 (fun _ => 0)), (q9, eJ G 28 (fun _ => 0)), (q10, eZ G 2 (fun _ => 0)), (q11, eZ G 3 (fun _ => 0)), (q12, eI G 6 (fun _ => 0)), (q13, eI G 6 (fun _ => 0))] H _ := hw
  refine W.widen (k := 13) (n := 2391) (Nat.le_of_ble_eq_true rfl) (Nat.le_of_ble_eq_true rfl) ?_
  refine x_putF (w' := [(qm, .inr (10, [.int 0, .ref q1, .int 0, .int 0, .int 0, .int 0, .int 0, .int 0, .int 0, .int 0, .int 0, .int 0, .long 0, .int 0, .ref q2, .ref q3, .ref q4, .ref q5, .ref q6, .ref q7, .ref q8, .ref q9, .ref q10, .ref q11, .int 0, .ref q12, .ref q13, .int 0, .int 0, .int 0, .int 0, .int 0, .null, .int 0, .int 0, .null, .null, .int 0, .int 0, .null, .int 0, .int 0, .int 0, .int 0])), (q1, eI G 940 (fun _ => 0)), (q2, eI G 339 (fun _ => 0)), (q3, eI G 64 (fun _ => 0)), (q4, eI G 678 (fun _ => 0)), (q5, eI G 264 (fun _ => 0)), (q6, eI G 33 (fun _ => 0)), (q7, eJ G 14 (fun _ => 0)), (q8, eJ G 14 (fun _ => 0)), (q9, eJ G 28 (fun _ => 0)), (q10, eZ G 2 (fun _ => 0)), (q11, eZ G 3 (fun _ => 0)), (q12, eI G 6 (fun _ => 0)), (q13, eI G 6 (fun _ => 0))]) C hw iwX11 tyX11_ok nmX11 B.2.2.2 10 rfl 0 rfl 26 (by decide) kw1219 rfl rfl rfl rfl (Nat.le_of_ble_eq_true rfl) rfl dX11_init_107 (fun H locs hw => ?_)
  refine lv_aload_n C.1 C.2.1 dX11_init_110 rfl (lv_at hl 0 rfl) ?_
  refine lv_iconst (v := (-1)) C.1 C.2.1 dX11_init_111 (by decide) ?_
  refine x_put (w' := [(qm, .inr (10, [.int 0, .ref q1, .int 0, .int 0, .int 0, .int 0, .int 0, .int 0, .int 0, .int 0, .int 0, .int 0, .long 0, .int 0, .ref q2, .ref q3, .ref q4, .ref q5, .ref q6, .ref q7, .ref q8, .ref q9, .ref q10, .ref q11, .int 0, .ref q12, .ref q13, .int 0, .int 0, .int 0, .int (-1), .int 0, .null, .int 0, .int 0, .null, .null, .int 0, .int 0, .null, .int 0, .int 0, .int 0, .int 0])), (q1, eI G 940 (fun _ => 0)), (q2, eI G 339 (fun _ => 0)), (q3, eI G 64 (fun _ => 0)), (q4, eI G 678 (fun _ => 0)), (q5, eI G 264 (fun _ => 0)), (q6, eI G 33 (fun _ => 0)), (q7, eJ G 14 (fun _ => 0)), (q8, eJ G 14 (fun _ => 0)), (q9, eJ G 28 (fun _ => 0)), (q10, eZ G 2 (fun _ => 0)), (q11, eZ G 3 (fun _ => 0)), (q12, eI G 6 (fun _ => 0)), (q13, eI G 6 (fun _ => 0))]) C hw iwX11 tyX11_ok nmX11 10 rfl 0 rfl 30 (by decide) kw1223 rfl rfl rfl (Nat.le_of_ble_eq_true rfl) rfl dX11_init_112 (fun H locs hw => ?_)
  refine lv_aload_n C.1 C.2.1 dX11_init_115 rfl (lv_at hl 0 rfl) ?_
  refine lv_iconst (v := (-1)) C.1 C.2.1 dX11_init_116 (by decide) ?_
  refine x_put (w' := [(qm, .inr (10, [.int 0, .ref q1, .int 0, .int 0, .int 0, .int 0, .int 0, .int 0, .int 0, .int 0, .int 0, .int 0, .long 0, .int 0, .ref q2, .ref q3, .ref q4, .ref q5, .ref q6, .ref q7, .ref q8, .ref q9, .ref q10, .ref q11, .int 0, .ref q12, .ref q13, .int 0, .int 0, .int 0, .int (-1), .int (-1), .null, .int 0, .int 0, .null, .null, .int 0, .int 0, .null, .int 0, .int 0, .int 0, .int 0])), (q1, eI G 940 (fun _ => 0)), (q2, eI G 339 (fun _ => 0)), (q3, eI G 64 (fun _ => 0)), (q4, eI G 678 (fun _ => 0)), (q5, eI G 264 (fun _ => 0)), (q6, eI G 33 (fun _ => 0)), (q7, eJ G 14 (fun _ => 0)), (q8, eJ G 14 (fun _ => 0)), (q9, eJ G 28 (fun _ => 0)), (q10, eZ G 2 (fun _ => 0)), (q11, eZ G 3 (fun _ => 0)), (q12, eI G 6 (fun _ => 0)), (q13, eI G 6 (fun _ => 0))]) C hw iwX11 tyX11_ok nmX11 10 rfl 0 rfl 31 (by decide) kw1224 rfl rfl rfl (Nat.le_of_ble_eq_true rfl) rfl dX11_init_117 (fun H locs hw => ?_)
  refine lv_aload_n C.1 C.2.1 dX11_init_120 rfl (lv_at hl 0 rfl) ?_
  refine lv_bipush (v := 64) C.1 C.2.1 dX11_init_121 (by decide) ?_
  refine x_newa (a0 := (64, .inl (fun _ => 0))) (N := 64) C hw (atype := .int) rfl 2 rfl kw230 (fun _ => rfl) (by decide) (by decide) (Nat.le_of_ble_eq_true rfl) (Nat.le_of_ble_eq_true rfl) (Nat.le_of_ble_eq_true rfl) dX11_init_123 (fun q14 H hw => ?_)
  have hw : Wd G s A [(qm, .inr (10, [.int 0, .ref q1, .int 0, .int 0, .int 0, .int 0, .int 0, .int 0, .int 0, .int 0, .int 0, .int 0, .long 0, .int 0, .ref q2, .ref q3, .ref q4, .ref q5, .ref q6, .ref q7, .ref q8, .ref q9, .ref q10, .ref q11, .int 0, .ref q12, .ref q13, .int 0, .int 0, .int 0, .int (-1), .int (-1), .null, .int 0, .int 0, .null, .null, .int 0, .int 0, .null, .int 0, .int 0, .int 0, .int 0])), (q1, eI G 940 (fun _ => 0)), (q2, eI G 339 (fun _ => 0)), (q3, eI G 64 (fun _ => 0)), (q4, eI G 678 (fun _ => 0)), (q5, eI G 264 (fun _ => 0)), (q6, eI G 33 (fun _ => 0)), (q7, eJ G 14 (fun _ => 0)), (q8, eJ G 14 (fun _ => 0)), (q9, eJ G 28 (fun _ => 0)), (q10, eZ G 2 (fun _ => 0)), (q11, eZ G 3 (fun _ => 0)), (q12, eI G 6 (fun _ => 0)), (q13, eI G 6 (fun _ => 0)), (q14, eI G 64 (fun _ => 0))] H _ := hw
  refine W.widen (k := 14) (n := 2455) (Nat.le_of_ble_eq_true rfl) (Nat.le_of_ble_eq_true rfl) ?_
  refine x_putF (w' := [(qm, .inr (10, [.int 0, .ref q1, .int 0, .int 0, .int 0, .int 0, .int 0, .int 0, .int 0, .int 0, .int 0, .int 0, .long 0, .int 0, .ref q2, .ref q3, .ref q4, .ref q5, .ref q6, .ref q7, .ref q8, .ref q9, .ref q10, .ref q11, .int 0, .ref q12, .ref q13, .int 0, .int 0, .int 0, .int (-1), .int (-1), .ref q14, .int 0, .int 0, .null, .null, .int 0, .int 0, .null, .int 0, .int 0, .int 0, .int 0])), (q1, eI G 940 (fun _ => 0)), (q2, eI G 339 (fun _ => 0)), (q3, eI G 64 (fun _ => 0)), (q4, eI G 678 (fun _ => 0)), (q5, eI G 264 (fun _ => 0)), (q6, eI G 33 (fun _ => 0)), (q7, eJ G 14 (fun _ => 0)), (q8, eJ G 14 (fun _ => 0)), (q9, eJ G 28 (fun _ => 0)), (q10, eZ G 2 (fun _ => 0)), (q11, eZ G 3 (fun _ => 0)), (q12, eI G 6 (fun _ => 0)), (q13, eI G 6 (fun _ => 0)), (q14, eI G 64 (fun _ => 0))]) C hw iwX11 tyX11_ok nmX11 B.2.2.2 10 rfl 0 rfl 32 (by decide) kw1225 rfl rfl rfl rfl (Nat.le_of_ble_eq_true rfl) rfl dX11_init_125 (fun H locs hw => ?_)
  refine lv_aload_n C.1 C.2.1 dX11_init_128 rfl (lv_at hl 0 rfl) ?_
  refine lv_bipush (v := 120) C.1 C.2.1 dX11_init_129 (by decide) ?_
  refine x_newa (a0 := (120, .inl (fun _ => 0))) (N := 120) C hw (atype := .int) rfl 2 rfl kw230 (fun _ => rfl) (by decide) (by decide) (Nat.le_of_ble_eq_true rfl) (Nat.le_of_ble_eq_true rfl) (Nat.le_of_ble_eq_true rfl) dX11_init_131 (fun q15 H hw => ?_)
  have hw : Wd G s A [(qm, .inr (10, [.int 0, .ref q1, .int 0, .int 0, .int 0, .int 0, .int 0, .int 0, .int 0, .int 0, .int 0, .int 0, .long 0, .int 0, .ref q2, .ref q3, .ref q4, .ref q5, .ref q6, .ref q7, .ref q8, .ref q9, .ref q10, .ref q11, .int 0, .ref q12, .ref q13, .int 0, .int 0, .int 0, .int (-1), .int (-1), .ref q14, .int 0, .int 0, .null, .null, .int 0, .int 0, .null, .int 0, .int 0, .int 0, .int 0])), (q1, eI G 940 (fun _ => 0)), (q2, eI G 339 (fun _ => 0)), (q3, eI G 64 (fun _ => 0)), (q4, eI G 678 (fun _ => 0)), (q5, eI G 264 (fun _ => 0)), (q6, eI G 33 (fun _ => 0)), (q7, eJ G 14 (fun _ => 0)), (q8, eJ G 14 (fun _ => 0)), (q9, eJ G 28 (fun _ => 0)), (q10, eZ G 2 (fun _ => 0)), (q11, eZ G 3 (fun _ => 0)), (q12, eI G 6 (fun _ => 0)), (q13, eI G 6 (fun _ => 0)), (q14, eI G 64 (fun _ => 0)), (q15, eI G 120 (fun _ => 0))] H _ := hw
  refine W.widen (k := 15) (n := 2575) (Nat.le_of_ble_eq_true rfl) (Nat.le_of_ble_eq_true rfl) ?_
  refine x_putF (w' := [(qm, .inr (10, [.int 0, .ref q1, .int 0, .int 0, .int 0, .int 0, .int 0, .int 0, .int 0, .int 0, .int 0, .int 0, .long 0, .int 0, .ref q2, .ref q3, .ref q4, .ref q5, .ref q6, .ref q7, .ref q8, .ref q9, .ref q10, .ref q11, .int 0, .ref q12, .ref q13, .int 0, .int 0, .int 0, .int (-1), .int (-1), .ref q14, .int 0, .int 0, .ref q15, .null, .int 0, .int 0, .null, .int 0, .int 0, .int 0, .int 0])), (q1, eI G 940 (fun _ => 0)), (q2, eI G 339 (fun _ => 0)), (q3, eI G 64 (fun _ => 0)), (q4, eI G 678 (fun _ => 0)), (q5, eI G 264 (fun _ => 0)), (q6, eI G 33 (fun _ => 0)), (q7, eJ G 14 (fun _ => 0)), (q8, eJ G 14 (fun _ => 0)), (q9, eJ G 28 (fun _ => 0)), (q10, eZ G 2 (fun _ => 0)), (q11, eZ G 3 (fun _ => 0)), (q12, eI G 6 (fun _ => 0)), (q13, eI G 6 (fun _ => 0)), (q14, eI G 64 (fun _ => 0)), (q15, eI G 120 (fun _ => 0))]) C hw iwX11 tyX11_ok nmX11 B.2.2.2 10 rfl 0 rfl 35 (by decide) kw1228 rfl rfl rfl rfl (Nat.le_of_ble_eq_true rfl) rfl dX11_init_133 (fun H locs hw => ?_)
  refine lv_aload_n C.1 C.2.1 dX11_init_136 rfl (lv_at hl 0 rfl) ?_
  refine lv_iconst (v := 4) C.1 C.2.1 dX11_init_137 (by decide) ?_
  refine x_newa (a0 := (4, .inl (fun _ => 0))) (N := 4) C hw (atype := .int) rfl 2 rfl kw230 (fun _ => rfl) (by decide) (by decide) (Nat.le_of_ble_eq_true rfl) (Nat.le_of_ble_eq_true rfl) (Nat.le_of_ble_eq_true rfl) dX11_init_138 (fun q16 H hw => ?_)
  have hw : Wd G s A [(qm, .inr (10, [.int 0, .ref q1, .int 0, .int 0, .int 0, .int 0, .int 0, .int 0, .int 0, .int 0, .int 0, .int 0, .long 0, .int 0, .ref q2, .ref q3, .ref q4, .ref q5, .ref q6, .ref q7, .ref q8, .ref q9, .ref q10, .ref q11, .int 0, .ref q12, .ref q13, .int 0, .int 0, .int 0, .int (-1), .int (-1), .ref q14, .int 0, .int 0, .ref q15, .null, .int 0, .int 0, .null, .int 0, .int 0, .int 0, .int 0])), (q1, eI G 940 (fun _ => 0)), (q2, eI G 339 (fun _ => 0)), (q3, eI G 64 (fun _ => 0)), (q4, eI G 678 (fun _ => 0)), (q5, eI G 264 (fun _ => 0)), (q6, eI G 33 (fun _ => 0)), (q7, eJ G 14 (fun _ => 0)), (q8, eJ G 14 (fun _ => 0)), (q9, eJ G 28 (fun _ => 0)), (q10, eZ G 2 (fun _ => 0)), (q11, eZ G 3 (fun _ => 0)), (q12, eI G 6 (fun _ => 0)), (q13, eI G 6 (fun _ => 0)), (q14, eI G 64 (fun _ => 0)), (q15, eI G 120 (fun _ => 0)), (q16, eI G 4 (fun _ => 0))] H _ := hw
  refine W.widen (k := 16) (n := 2579) (Nat.le_of_ble_eq_true rfl) (Nat.le_of_ble_eq_true rfl) ?_
  refine x_putF (w' := [(qm, .inr (10, [.int 0, .ref q1, .int 0, .int 0, .int 0, .int 0, .int 0, .int 0, .int 0, .int 0, .int 0, .int 0, .long 0, .int 0, .ref q2, .ref q3, .ref q4, .ref q5, .ref q6, .ref q7, .ref q8, .ref q9, .ref q10, .ref q11, .int 0, .ref q12, .ref q13, .int 0, .int 0, .int 0, .int (-1), .int (-1), .ref q14, .int 0, .int 0, .ref q15, .ref q16, .int 0, .int 0, .null, .int 0, .int 0, .int 0, .int 0])), (q1, eI G 940 (fun _ => 0)), (q2, eI G 339 (fun _ => 0)), (q3, eI G 64 (fun _ => 0)), (q4, eI G 678 (fun _ => 0)), (q5, eI G 264 (fun _ => 0)), (q6, eI G 33 (fun _ => 0)), (q7, eJ G 14 (fun _ => 0)), (q8, eJ G 14 (fun _ => 0)), (q9, eJ G 28 (fun _ => 0)), (q10, eZ G 2 (fun _ => 0)), (q11, eZ G 3 (fun _ => 0)), (q12, eI G 6 (fun _ => 0)), (q13, eI G 6 (fun _ => 0)), (q14, eI G 64 (fun _ => 0)), (q15, eI G 120 (fun _ => 0)), (q16, eI G 4 (fun _ => 0))]) C hw iwX11 tyX11_ok nmX11 B.2.2.2 10 rfl 0 rfl 36 (by decide) kw1229 rfl rfl rfl rfl (Nat.le_of_ble_eq_true rfl) rfl dX11_init_140 (fun H locs hw => ?_)
  refine lv_aload_n C.1 C.2.1 dX11_init_143 rfl (lv_at hl 0 rfl) ?_
  refine lv_sipush (v := 240) C.1 C.2.1 dX11_init_144 (by decide) ?_
  refine x_newa (a0 := (240, .inl (fun _ => 0))) (N := 240) C hw (atype := .int) rfl 2 rfl kw230 (fun _ => rfl) (by decide) (by decide) (Nat.le_of_ble_eq_true rfl) (Nat.le_of_ble_eq_true rfl) (Nat.le_of_ble_eq_true rfl) dX11_init_147 (fun q17 H hw => ?_)
  have hw : Wd G s A [(qm, .inr (10, [.int 0, .ref q1, .int 0, .int 0, .int 0, .int 0, .int 0, .int 0, .int 0, .int 0, .int 0, .int 0, .long 0, .int 0, .ref q2, .ref q3, .ref q4, .ref q5, .ref q6, .ref q7, .ref q8, .ref q9, .ref q10, .ref q11, .int 0, .ref q12, .ref q13, .int 0, .int 0, .int 0, .int (-1), .int (-1), .ref q14, .int 0, .int 0, .ref q15, .ref q16, .int 0, .int 0, .null, .int 0, .int 0, .int 0, .int 0])), (q1, eI G 940 (fun _ => 0)), (q2, eI G 339 (fun _ => 0)), (q3, eI G 64 (fun _ => 0)), (q4, eI G 678 (fun _ => 0)), (q5, eI G 264 (fun _ => 0)), (q6, eI G 33 (fun _ => 0)), (q7, eJ G 14 (fun _ => 0)), (q8, eJ G 14 (fun _ => 0)), (q9, eJ G 28 (fun _ => 0)), (q10, eZ G 2 (fun _ => 0)), (q11, eZ G 3 (fun _ => 0)), (q12, eI G 6 (fun _ => 0)), (q13, eI G 6 (fun _ => 0)), (q14, eI G 64 (fun _ => 0)), (q15, eI G 120 (fun _ => 0)), (q16, eI G 4 (fun _ => 0)), (q17, eI G 240 (fun _ => 0))] H _ := hw
  refine W.widen (k := 17) (n := 2819) (Nat.le_of_ble_eq_true rfl) (Nat.le_of_ble_eq_true rfl) ?_
  refine x_putF (w' := [(qm, .inr (10, [.int 0, .ref q1, .int 0, .int 0, .int 0, .int 0, .int 0, .int 0, .int 0, .int 0, .int 0, .int 0, .long 0, .int 0, .ref q2, .ref q3, .ref q4, .ref q5, .ref q6, .ref q7, .ref q8, .ref q9, .ref q10, .ref q11, .int 0, .ref q12, .ref q13, .int 0, .int 0, .int 0, .int (-1), .int (-1), .ref q14, .int 0, .int 0, .ref q15, .ref q16, .int 0, .int 0, .ref q17, .int 0, .int 0, .int 0, .int 0])), (q1, eI G 940 (fun _ => 0)), (q2, eI G 339 (fun _ => 0)), (q3, eI G 64 (fun _ => 0)), (q4, eI G 678 (fun _ => 0)), (q5, eI G 264 (fun _ => 0)), (q6, eI G 33 (fun _ => 0)), (q7, eJ G 14 (fun _ => 0)), (q8, eJ G 14 (fun _ => 0)), (q9, eJ G 28 (fun _ => 0)), (q10, eZ G 2 (fun _ => 0)), (q11, eZ G 3 (fun _ => 0)), (q12, eI G 6 (fun _ => 0)), (q13, eI G 6 (fun _ => 0)), (q14, eI G 64 (fun _ => 0)), (q15, eI G 120 (fun _ => 0)), (q16, eI G 4 (fun _ => 0)), (q17, eI G 240 (fun _ => 0))]) C hw iwX11 tyX11_ok nmX11 B.2.2.2 10 rfl 0 rfl 39 (by decide) kw1232 rfl rfl rfl rfl (Nat.le_of_ble_eq_true rfl) rfl dX11_init_149 (fun H locs hw => ?_)
  refine lv_aload_n C.1 C.2.1 dX11_init_152 rfl (lv_at hl 0 rfl) ?_
  refine x_callvV (As := []) (rest := []) (wr := [(q1, eI G 940 (fun _ => 0)), (q2, eI G 339 (fun _ => 0)), (q4, eI G 678 (fun _ => 0)), (q5, eI G 264 (fun _ => 0)), (q6, eI G 33 (fun _ => 0)), (q7, eJ G 14 (fun _ => 0)), (q8, eJ G 14 (fun _ => 0)), (q9, eJ G 28 (fun _ => 0)), (q10, eZ G 2 (fun _ => 0)), (q12, eI G 6 (fun _ => 0)), (q13, eI G 6 (fun _ => 0)), (q14, eI G 64 (fun _ => 0)), (q15, eI G 120 (fun _ => 0)), (q16, eI G 4 (fun _ => 0)), (q17, eI G 240 (fun _ => 0))]) C hw (c_X11_startRead0 qm q1 q2 q3 q4 q5 q6 q7 q8 q9 q10 q11 q12 q13 q14 q15 q16 q17) mwX11_startRead kw1189 [0, 3, 11] [1, 2, 4, 5, 6, 7, 8, 9, 10, 12, 13, 14, 15, 16, 17] rfl rfl rfl rfl (by decide) 0 rfl rfl rfl rfl hl.1 rfl (Nat.le_of_ble_eq_true rfl) ⟨(Nat.le_of_ble_eq_true rfl), (Nat.le_of_ble_eq_true rfl)⟩ ⟨(Nat.le_of_ble_eq_true rfl), (Nat.le_of_ble_eq_true rfl)⟩ dX11_init_153 (fun  u9 H locs hp9 hw => ?_)
  obtain rfl := hp9
  have hw : Wd G s A [(q1, eI G 940 (fun _ => 0)), (q2, eI G 339 (fun _ => 0)), (q4, eI G 678 (fun _ => 0)), (q5, eI G 264 (fun _ => 0)), (q6, eI G 33 (fun _ => 0)), (q7, eJ G 14 (fun _ => 0)), (q8, eJ G 14 (fun _ => 0)), (q9, eJ G 28 (fun _ => 0)), (q10, eZ G 2 (fun _ => 0)), (q12, eI G 6 (fun _ => 0)), (q13, eI G 6 (fun _ => 0)), (q14, eI G 64 (fun _ => 0)), (q15, eI G 120 (fun _ => 0)), (q16, eI G 4 (fun _ => 0)), (q17, eI G 240 (fun _ => 0)), (qm, .inr (10, [.int 0, .ref q1, .int 0, .int 0, .int 0, .int 0, .int 0, .int 0, .int 0, .int 0, .int 0, .int 0, .long 0, .int 0, .ref q2, .ref q3, .ref q4, .ref q5, .ref q6, .ref q7, .ref q8, .ref q9, .ref q10, .ref q11, .int 0, .ref q12, .ref q13, .int 0, .int 0, .int 0, .int (-1), .int (-1), .ref q14, .int 0, .int 0, .ref q15, .ref q16, .int 0, .int 0, .ref q17, .int 0, .int 0, .int 0, .int 0])), (q3, eI G 64 rd0), (q11, eZ G 3 (fun _ => 0))] H _ := hw
  refine lv_iconst (v := 0) C.1 C.2.1 dX11_init_156 (by decide) ?_
  refine lv_istore_n (lv' := [(1, .int 0), (0, .ref qm)]) C.1 C.2.1 dX11_init_157 rfl hl (by decide) rfl (fun ls hl => ?_)
  have loop158 : ∀ (n9 : Nat) (k9 : Nat), 64 - k9 < n9 → k9 ≤ 64 → ∀ (H : Heap) (locs : List Loc) (ls : Array Slot), Wd G s A [(q1, eI G 940 (fun _ => 0)), (q2, eI G 339 (va_cpy rd0 (fun _ => 0) 0 0 k9)), (q4, eI G 678 (fun _ => 0)), (q5, eI G 264 (fun _ => 0)), (q6, eI G 33 (fun _ => 0)), (q7, eJ G 14 (fun _ => 0)), (q8, eJ G 14 (fun _ => 0)), (q9, eJ G 28 (fun _ => 0)), (q10, eZ G 2 (fun _ => 0)), (q12, eI G 6 (fun _ => 0)), (q13, eI G 6 (fun _ => 0)), (q14, eI G 64 (fun _ => 0)), (q15, eI G 120 (fun _ => 0)), (q16, eI G 4 (fun _ => 0)), (q17, eI G 240 (fun _ => 0)), (qm, .inr (10, [.int 0, .ref q1, .int 0, .int 0, .int 0, .int 0, .int 0, .int 0, .int 0, .int 0, .int 0, .int 0, .long 0, .int 0, .ref q2, .ref q3, .ref q4, .ref q5, .ref q6, .ref q7, .ref q8, .ref q9, .ref q10, .ref q11, .int 0, .ref q12, .ref q13, .int 0, .int 0, .int 0, .int (-1), .int (-1), .ref q14, .int 0, .int 0, .ref q15, .ref q16, .int 0, .int 0, .ref q17, .int 0, .int 0, .int 0, .int 0])), (q3, eI G 64 rd0), (q11, eZ G 3 (fun _ => 0))] H locs → lv_has ls 2 [(1, .int (nI k9)), (0, .ref qm)] → W p l e (rmD 1 17 2819) s m [.ref qm].toArray below meth c H locs 17 2819 (MQ below (va_Qv (fun (u9 : va_W) => ∃ (am : Nat → Nat) , u9 = [(qm, .inr (10, [.int 0, .ref (am 0), .int 0, .int 0, .int 0, .int 0, .int 0, .int 0, .int 0, .int 0, .int 0, .int 0, .long 0, .int 0, .ref (am 1), .ref (am 2), .ref (am 3), .ref (am 4), .ref (am 5), .ref (am 6), .ref (am 7), .ref (am 8), .ref (am 9), .ref (am 10), .int 0, .ref (am 11), .ref (am 12), .int 0, .int 0, .int 0, .int (-1), .int (-1), .ref (am 13), .int 0, .int 0, .ref (am 14), .ref (am 15), .int 0, .int 0, .ref (am 16), .int 0, .int 0, .int 0, .int 0])), ((am 0), eI G 940 (fun _ => 0)), ((am 1), eI G 339 nw0), ((am 2), eI G 64 rd0), ((am 3), eI G 678 (fun _ => 0)), ((am 4), eI G 264 (fun _ => 0)), ((am 5), eI G 33 (fun _ => 0)), ((am 6), eJ G 14 (fun _ => 0)), ((am 7), eJ G 14 (fun _ => 0)), ((am 8), eJ G 28 (fun _ => 0)), ((am 9), eZ G 2 (fun _ => 0)), ((am 10), eZ G 3 (fun _ => 0)), ((am 11), eI G 6 (fun _ => 0)), ((am 12), eI G 6 (fun _ => 0)), ((am 13), eI G 64 (fun _ => 0)), ((am 14), eI G 120 (fun _ => 0)), ((am 15), eI G 4 (fun _ => 0)), ((am 16), eI G 240 (fun _ => 0))]) (mB G A) A) [.ref qm].toArray s 17 2819 A) (F0 m 158 ls []) := by
    intro n9
    induction n9 with
    | zero => intro k9 h9; exact absurd h9 (Nat.not_lt_zero _)
    | succ n9 ih =>
      intro k9 h9 hi158 H locs ls hw hl
      refine lv_iload_n C.1 C.2.1 dX11_init_158 rfl (lv_at hl 0 rfl) ?_
      refine lv_bipush (v := 64) C.1 C.2.1 dX11_init_159 (by decide) ?_
      refine lv_icmp_ge (tgt := 182) C.1 C.2.1 dX11_init_161 (by decide) (fun c_161 => ?_) (fun c_161 => ?_)
      · skip
        have ek : k9 = 64 := x_geN hi158 c_161 (by decide) (by decide)
        subst ek
        have hw := hw.sub (w' := [(qm, .inr (10, [.int 0, .ref q1, .int 0, .int 0, .int 0, .int 0, .int 0, .int 0, .int 0, .int 0, .int 0, .int 0, .long 0, .int 0, .ref q2, .ref q3, .ref q4, .ref q5, .ref q6, .ref q7, .ref q8, .ref q9, .ref q10, .ref q11, .int 0, .ref q12, .ref q13, .int 0, .int 0, .int 0, .int (-1), .int (-1), .ref q14, .int 0, .int 0, .ref q15, .ref q16, .int 0, .int 0, .ref q17, .int 0, .int 0, .int 0, .int 0])), (q1, eI G 940 (fun _ => 0)), (q2, eI G 339 nw0), (q3, eI G 64 rd0), (q4, eI G 678 (fun _ => 0)), (q5, eI G 264 (fun _ => 0)), (q6, eI G 33 (fun _ => 0)), (q7, eJ G 14 (fun _ => 0)), (q8, eJ G 14 (fun _ => 0)), (q9, eJ G 28 (fun _ => 0)), (q10, eZ G 2 (fun _ => 0)), (q11, eZ G 3 (fun _ => 0)), (q12, eI G 6 (fun _ => 0)), (q13, eI G 6 (fun _ => 0)), (q14, eI G 64 (fun _ => 0)), (q15, eI G 120 (fun _ => 0)), (q16, eI G 4 (fun _ => 0)), (q17, eI G 240 (fun _ => 0))]) [15, 0, 1, 16, 2, 3, 4, 5, 6, 7, 8, 17, 9, 10, 11, 12, 13, 14] rfl rfl
        exact x_retv B hw ⟨(fun k => ([q1, q2, q3, q4, q5, q6, q7, q8, q9, q10, q11, q12, q13, q14, q15, q16, q17] : List Nat).getD k 0), rfl⟩ (Nat.le_of_ble_eq_true rfl) (Nat.le_of_ble_eq_true rfl) dX11_init_182
      · skip
        have hk161 : k9 < 64 := x_ltN hi158 c_161 (by decide)
        refine lv_aload_n C.1 C.2.1 dX11_init_164 rfl (lv_at hl 1 rfl) ?_
        refine x_get C hw iwX11 10 rfl 15 rfl 14 (by decide) kw1207 rfl dX11_init_165 ?_
        refine lv_iload_n C.1 C.2.1 dX11_init_168 rfl (lv_at hl 0 rfl) ?_
        refine lv_aload_n C.1 C.2.1 dX11_init_169 rfl (lv_at hl 1 rfl) ?_
        refine x_get C hw iwX11 10 rfl 15 rfl 15 (by decide) kw1208 rfl dX11_init_170 ?_
        refine lv_iload_n C.1 C.2.1 dX11_init_173 rfl (lv_at hl 0 rfl) ?_
        refine x_iald (v := (rd0 (nI k9).toNatClampNeg)) C hw 16 rfl (vp_in_nI hk161 (by decide)) rfl dX11_init_174 ?_
        refine x_iast (f' := (va_cpy rd0 (fun _ => 0) 0 0 (k9 + 1))) (w' := [(q1, eI G 940 (fun _ => 0)), (q2, eI G 339 (va_cpy rd0 (fun _ => 0) 0 0 (k9 + 1))), (q4, eI G 678 (fun _ => 0)), (q5, eI G 264 (fun _ => 0)), (q6, eI G 33 (fun _ => 0)), (q7, eJ G 14 (fun _ => 0)), (q8, eJ G 14 (fun _ => 0)), (q9, eJ G 28 (fun _ => 0)), (q10, eZ G 2 (fun _ => 0)), (q12, eI G 6 (fun _ => 0)), (q13, eI G 6 (fun _ => 0)), (q14, eI G 64 (fun _ => 0)), (q15, eI G 120 (fun _ => 0)), (q16, eI G 4 (fun _ => 0)), (q17, eI G 240 (fun _ => 0)), (qm, .inr (10, [.int 0, .ref q1, .int 0, .int 0, .int 0, .int 0, .int 0, .int 0, .int 0, .int 0, .int 0, .int 0, .long 0, .int 0, .ref q2, .ref q3, .ref q4, .ref q5, .ref q6, .ref q7, .ref q8, .ref q9, .ref q10, .ref q11, .int 0, .ref q12, .ref q13, .int 0, .int 0, .int 0, .int (-1), .int (-1), .ref q14, .int 0, .int 0, .ref q15, .ref q16, .int 0, .int 0, .ref q17, .int 0, .int 0, .int 0, .int 0])), (q3, eI G 64 rd0), (q11, eZ G 3 (fun _ => 0))]) C hw 1 rfl (vp_in_nI (by omega) (by decide)) (x_cpyN (by omega)) rfl dX11_init_175 (fun H locs hw => ?_)
        refine lv_iinc (v := (nI (k9 + 1))) (lv' := [(1, .int (nI (k9 + 1))), (0, .ref qm)]) C.1 C.2.1 dX11_init_176 hl (k := 0) rfl (nI_1 k9) (by decide) rfl (fun ls hl => ?_)
        refine lv_goto (tgt := 158) C.1 C.2.1 dX11_init_179 (by decide) ?_
        exact ih (k9 + 1) (by omega) hk161 _ _ _ hw (lv_sub hl [0, 1] rfl)
  exact loop158 _ 0 (Nat.lt_succ_self _) (Nat.zero_le _) _ _ _ (by rw [x_cpyZ]; exact hw) (lv_sub hl [0, 1] rfl)
