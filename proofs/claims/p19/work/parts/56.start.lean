-- needs: 5
theorem tb_t1 {w : Cond} (i : Nat) (h : tables_1_1[i]? = some w) : w ∈ lw_tbl := List.mem_append_right _ ((fun h => List.mem_append_left _ h) (List.mem_of_getElem? h))
theorem tb_t2 {w : Cond} (i : Nat) (h : tables_1_2[i]? = some w) : w ∈ lw_tbl := List.mem_append_right _ ((fun h => List.mem_append_right _ (List.mem_append_left _ h)) (List.mem_of_getElem? h))
theorem tb_t3 {w : Cond} (i : Nat) (h : tables_1_3[i]? = some w) : w ∈ lw_tbl := List.mem_append_right _ ((fun h => List.mem_append_right _ (List.mem_append_right _ (List.mem_append_left _ h))) (List.mem_of_getElem? h))
theorem tb_t4 {w : Cond} (i : Nat) (h : tables_1_4[i]? = some w) : w ∈ lw_tbl := List.mem_append_right _ ((fun h => List.mem_append_right _ (List.mem_append_right _ (List.mem_append_right _ (List.mem_append_left _ h)))) (List.mem_of_getElem? h))
theorem tb_t5 {w : Cond} (i : Nat) (h : tables_1_5[i]? = some w) : w ∈ lw_tbl := List.mem_append_right _ ((fun h => List.mem_append_right _ (List.mem_append_right _ (List.mem_append_right _ (List.mem_append_right _ (List.mem_append_left _ h))))) (List.mem_of_getElem? h))
theorem tb_t6 {w : Cond} (i : Nat) (h : tables_1_6[i]? = some w) : w ∈ lw_tbl := List.mem_append_right _ ((fun h => List.mem_append_right _ (List.mem_append_right _ (List.mem_append_right _ (List.mem_append_right _ (List.mem_append_right _ (List.mem_append_left _ h)))))) (List.mem_of_getElem? h))
theorem tb_t7 {w : Cond} (i : Nat) (h : tables_1_7[i]? = some w) : w ∈ lw_tbl := List.mem_append_right _ ((fun h => List.mem_append_right _ (List.mem_append_right _ (List.mem_append_right _ (List.mem_append_right _ (List.mem_append_right _ (List.mem_append_right _ (List.mem_append_left _ h))))))) (List.mem_of_getElem? h))
theorem tb_t8 {w : Cond} (i : Nat) (h : tables_1_8[i]? = some w) : w ∈ lw_tbl := List.mem_append_right _ ((fun h => List.mem_append_right _ (List.mem_append_right _ (List.mem_append_right _ (List.mem_append_right _ (List.mem_append_right _ (List.mem_append_right _ (List.mem_append_right _ (h)))))))) (List.mem_of_getElem? h))
theorem arrT {s : State} {cA : ClassId} {kA : Class} {comp : ClassId} {ty : FieldType} (f2 : s.vm.classes[cA]? = some kA) (f3 : kA.kind = .array comp ty) : ArrOfT s cA ty := fun N z => ⟨(fun k h => by cases h), kA, f2, comp, f3⟩
def strT : Nat → Term := fun i => match i with
  | 0 => .string "LanternState$Tape" 19
  | 1 => .string "LanternState$Bill" 34
  | 2 => .string "LanternState$Bill" 43
  | 3 => .string "LanternState$Bill" 45
  | 4 => .string "LanternState$Bill" 51
  | 5 => .string "LanternState" 138
  | _ => .string "LanternState" 191
abbrev stF : List Cond := flatC (Jvm.Cond.and given_1 narrow_1)
theorem st_ex : ∀ i, i < 7 → Cond.exactly (strT i) "java/lang/String" ∈ stF := by decide +kernel
theorem st_co : ∀ i, i < 7 → Cond.eq (.field (strT i) "java/lang/String" "coder" "B") (.int 0) ∈ stF := by decide +kernel
theorem st_ar : ∀ i, i < 7 → Cond.arrayOf (.field (strT i) "java/lang/String" "value" "[B") .byte ∈ stF := by decide +kernel
theorem st_le : ∀ i, i < 7 → Cond.eq (.length (.field (strT i) "java/lang/String" "value" "[B")) (.int (Int32.ofNat (lenJS.getD i 0))) ∈ stF := by decide +kernel
theorem st_in {b n : Nat} {f : Nat → Cond} (h : (stF.drop b).take n = (List.range n).map f) (j : Nat) (hj : j < n) : f j ∈ stF := by
  have this : f j ∈ (List.range n).map f := List.mem_map.mpr ⟨j, List.mem_range.mpr hj, rfl⟩
  rw [← h] at this
  exact List.mem_of_mem_drop (List.mem_of_mem_take this)
theorem st_el0 : (stF.drop 52).take 151 = (List.range 151).map (fun j => Cond.eq (.elem (.field (strT 0) "java/lang/String" "value" "[B") (.int (Int32.ofNat j))) (.int ((bytJS.getD 0 []).getD j 0))) := by decide +kernel
theorem st_el1 : (stF.drop 207).take 6 = (List.range 6).map (fun j => Cond.eq (.elem (.field (strT 1) "java/lang/String" "value" "[B") (.int (Int32.ofNat j))) (.int ((bytJS.getD 1 []).getD j 0))) := by decide +kernel
theorem st_el2 : (stF.drop 218).take 11 = (List.range 11).map (fun j => Cond.eq (.elem (.field (strT 2) "java/lang/String" "value" "[B") (.int (Int32.ofNat j))) (.int ((bytJS.getD 2 []).getD j 0))) := by decide +kernel
theorem st_el3 : (stF.drop 235).take 10 = (List.range 10).map (fun j => Cond.eq (.elem (.field (strT 3) "java/lang/String" "value" "[B") (.int (Int32.ofNat j))) (.int ((bytJS.getD 3 []).getD j 0))) := by decide +kernel
theorem st_el4 : (stF.drop 252).take 5 = (List.range 5).map (fun j => Cond.eq (.elem (.field (strT 4) "java/lang/String" "value" "[B") (.int (Int32.ofNat j))) (.int ((bytJS.getD 4 []).getD j 0))) := by decide +kernel
theorem st_el5 : (stF.drop 265).take 21 = (List.range 21).map (fun j => Cond.eq (.elem (.field (strT 5) "java/lang/String" "value" "[B") (.int (Int32.ofNat j))) (.int ((bytJS.getD 5 []).getD j 0))) := by decide +kernel
theorem st_el6 : (stF.drop 295).take 22 = (List.range 22).map (fun j => Cond.eq (.elem (.field (strT 6) "java/lang/String" "value" "[B") (.int (Int32.ofNat j))) (.int ((bytJS.getD 6 []).getD j 0))) := by decide +kernel
theorem st_el : ∀ i, i < 7 → ∀ j, j < lenJS.getD i 0 → Cond.eq (.elem (.field (strT i) "java/lang/String" "value" "[B") (.int (Int32.ofNat j))) (.int ((bytJS.getD i []).getD j 0)) ∈ stF := by
  intro i hi j hj
  match i, hi, hj with
  | 0, _, hj => exact st_in st_el0 j hj
  | 1, _, hj => exact st_in st_el1 j hj
  | 2, _, hj => exact st_in st_el2 j hj
  | 3, _, hj => exact st_in st_el3 j hj
  | 4, _, hj => exact st_in st_el4 j hj
  | 5, _, hj => exact st_in st_el5 j hj
  | 6, _, hj => exact st_in st_el6 j hj
theorem st_ne : ∀ i, i < 7 → ∀ j, j < 7 → i ≠ j → Cond.not (Cond.eq (strT i) (strT j)) ∈ stF ∨ Cond.not (Cond.eq (strT j) (strT i)) ∈ stF := by decide +kernel
theorem st_ln : ∀ i, i < 7 → lenJS.getD i 0 < 2 ^ 31 := by decide +kernel
set_option maxHeartbeats 4000000 in
set_option maxRecDepth 100000 in
theorem start_K {s : State} {args : Array Value} (hts : ∀ w ∈ lw_tbl, w.before args s = true) (hgv : (Jvm.Cond.and given_1 narrow_1).before args s = true) : ∃ G : Gc, mK G s ∧ mE G (fun q : Nat => s.heap.size ≤ q) s s.heap := by
  have hg : ∀ w ∈ gw, w.before args s = true := fun w h => hts w (gw_sub w h)
  have hs := flat_of_before _ hgv
  have hA : ∀ a : Nat, a < s.heap.size → ¬ (fun q : Nat => s.heap.size ≤ q) a := fun a h => Nat.not_le.mpr h
  obtain ⟨c0, iS0, hK0⟩ := u_known (C := RX0) (T := TX0) (N := 2) (n := 2) hg iwX0 (hg _ kw402)
  obtain ⟨c1, iS1, hK1⟩ := u_known (C := RX1) (T := TX1) (N := 6) (n := 6) hg iwX1 (hg _ kw345)
  obtain ⟨c2, iS2, hK2⟩ := u_known (C := RX2) (T := TX2) (N := 3) (n := 3) hg iwX2 (hg _ kw295)
  obtain ⟨c3, iS3, hK3⟩ := u_known (C := RX3) (T := TX3) (N := 4) (n := 4) hg iwX3 (hg _ kw419)
  obtain ⟨c4, iS4, hK4⟩ := u_known (C := RX5) (T := TX5) (N := 18) (n := 18) hg iwX5 (hg _ kw142)
  obtain ⟨c5, iS5, hK5⟩ := u_known (C := RX6) (T := TX6) (N := 7) (n := 7) hg iwX6 (hg _ kw372)
  obtain ⟨c6, iS6, hK6⟩ := u_known (C := RX7) (T := TX7) (N := 7) (n := 7) hg iwX7 (hg _ kw315)
  obtain ⟨c7, iS7, hK7⟩ := u_known (C := RX8) (T := TX8) (N := 11) (n := 11) hg iwX8 (hg _ kw232)
  obtain ⟨c8, iS8, hK8⟩ := u_known (C := RX9) (T := TX9) (N := 12) (n := 12) hg iwX9 (hg _ kw33)
  obtain ⟨c9, iS9, hK9⟩ := u_known (C := RX10) (T := TX10) (N := 17) (n := 17) hg iwX10 (hg _ kw25)
  obtain ⟨c10, iS10, hK10⟩ := u_known (C := RX11) (T := TX11) (N := 44) (n := 44) hg iwX11 (hg _ kw1178)
  obtain ⟨a0, k0, m0, f0, g0, h0⟩ := Cond.arrayClass_spec (hg _ kw140)
  obtain ⟨a1, k1, m1, f1, g1, h1⟩ := Cond.arrayClass_spec (hg _ kw416)
  obtain ⟨a2, k2, m2, f2, g2, h2⟩ := Cond.arrayClass_spec (hg _ kw230)
  obtain ⟨a3, k3, m3, f3, g3, h3⟩ := Cond.arrayClass_spec (hg _ kw139)
  obtain ⟨a4, k4, m4, f4, g4, h4⟩ := Cond.arrayClass_spec (hg _ kw1326)
  have o5 := hts (.arrayOver (.object "LanternState$Image")) (tb_t2 178 rfl)
  obtain ⟨m5, a5, k5, e5, -, g5, h5, f5⟩ := Cond.arrayOver_spec o5
  have o6 := hts (.arrayOver (.object "LanternState$State")) (tb_t2 61 rfl)
  obtain ⟨m6, a6, k6, e6, -, g6, h6, f6⟩ := Cond.arrayOver_spec o6
  obtain ⟨adK, adV, hS, hE⟩ := vk_Sof (args := args) (tm := strT) (len := lenJS) (byt := bytJS) (A := fun q : Nat => s.heap.size ≤ q) st_ln (fun i hi => hs _ (st_ex i hi)) (fun i hi => hs _ (st_co i hi)) (fun i hi => hs _ (st_ar i hi)) (fun i hi => hs _ (st_le i hi)) (fun i hi j hj => hs _ (st_el i hi j hj)) (fun i j hi hj hn => (st_ne i hi j hj hn).elim (fun z => Or.inl (hs _ z)) (fun z => Or.inr (hs _ z))) hA
  refine ⟨((fun k => if k = 0 then c0 else if k = 1 then c1 else if k = 2 then c2 else if k = 3 then c3 else if k = 4 then c4 else if k = 5 then c5 else if k = 6 then c6 else if k = 7 then c7 else if k = 8 then c8 else if k = 9 then c9 else c10, fun k => if k = 0 then iS0 else if k = 1 then iS1 else if k = 2 then iS2 else if k = 3 then iS3 else if k = 4 then iS4 else if k = 5 then iS5 else if k = 6 then iS6 else if k = 7 then iS7 else if k = 8 then iS8 else if k = 9 then iS9 else iS10), fun k => if k = 0 then a0 else if k = 1 then a1 else if k = 2 then a2 else if k = 3 then a3 else if k = 4 then a4 else if k = 5 then a5 else a6, adK, adV), ⟨⟨?_, ?_⟩, ?_, ?_, ?_, ?_, ?_, ?_⟩, ⟨hS, ?_, ?_, ?_, ?_⟩⟩
  · intro k q hq
    match k, hq with
    | 0, hq => cases hq; exact hK0
    | 1, hq => cases hq; exact hK1
    | 2, hq => cases hq; exact hK2
    | 3, hq => cases hq; exact hK3
    | 4, hq => cases hq; exact hK4
    | 5, hq => cases hq; exact hK5
    | 6, hq => cases hq; exact hK6
    | 7, hq => cases hq; exact hK7
    | 8, hq => cases hq; exact hK8
    | 9, hq => cases hq; exact hK9
    | 10, hq => cases hq; exact hK10
    | k + 11, hq => simp [vwCl] at hq
  · intro k q hq
    match k, hq with
    | 0, hq => cases hq; exact ⟨arrT g0 h0, f0⟩
    | 1, hq => cases hq; exact ⟨arrT g1 h1, f1⟩
    | 2, hq => cases hq; exact ⟨arrT g2 h2, f2⟩
    | 3, hq => cases hq; exact ⟨arrT g3 h3, f3⟩
    | 4, hq => cases hq; exact ⟨arrT g4 h4, f4⟩
    | 5, hq => cases hq; exact ⟨arrT g5 h5, k5, m5, g5, h5, e5, f5⟩
    | 6, hq => cases hq; exact ⟨arrT g6 h6, k6, m6, g6, h6, e6, f6⟩
    | k + 7, hq => simp [tysG] at hq
  · exact List.forall_mem_cons.mpr ⟨va_Nw.of rfl (hts _ (tb_t1 143 rfl)), List.forall_mem_cons.mpr ⟨va_Nw.of rfl (hts _ (tb_t1 233 rfl)), List.forall_mem_cons.mpr ⟨va_Nw.of rfl (hts _ (tb_t2 62 rfl)), List.forall_mem_cons.mpr ⟨va_Nw.of rfl (hts _ (tb_t2 76 rfl)), List.forall_mem_cons.mpr ⟨va_Nw.of rfl (hts _ (tb_t2 106 rfl)), List.forall_mem_cons.mpr ⟨va_Nw.of rfl (hts _ (tb_t2 133 rfl)), List.forall_mem_cons.mpr ⟨va_Nw.of rfl (hts _ (tb_t2 163 rfl)), List.forall_mem_cons.mpr ⟨va_Nw.of rfl (hts _ (tb_t2 180 rfl)), List.forall_mem_cons.mpr ⟨va_Nw.of rfl (hts _ (tb_t2 185 rfl)), List.forall_mem_cons.mpr ⟨va_Nw.of rfl (hts _ (tb_t2 187 rfl)), List.forall_mem_cons.mpr ⟨va_Nw.of rfl (hts _ (tb_t2 189 rfl)), fun _ h => absurd h List.not_mem_nil⟩⟩⟩⟩⟩⟩⟩⟩⟩⟩⟩
  · exact va_AO.of o5
  · exact va_AO.of o6
  · exact List.forall_mem_cons.mpr ⟨vk_R.of (hts _ (tb_t1 38 rfl)) (hE 0 (by decide)), List.forall_mem_cons.mpr ⟨vk_R.of (hts _ (tb_t4 199 rfl)) (hE 1 (by decide)), List.forall_mem_cons.mpr ⟨vk_R.of (hts _ (tb_t4 206 rfl)) (hE 2 (by decide)), List.forall_mem_cons.mpr ⟨vk_R.of (hts _ (tb_t4 207 rfl)) (hE 3 (by decide)), List.forall_mem_cons.mpr ⟨vk_R.of (hts _ (tb_t4 209 rfl)) (hE 4 (by decide)), List.forall_mem_cons.mpr ⟨vk_R.of (hts _ (tb_t5 177 rfl)) (hE 5 (by decide)), List.forall_mem_cons.mpr ⟨vk_R.of (hts _ (tb_t5 210 rfl)) (hE 6 (by decide)), fun _ h => absurd h List.not_mem_nil⟩⟩⟩⟩⟩⟩⟩
  · exact List.forall_mem_cons.mpr ⟨va_Nw.of rfl (hts _ (tb_t5 141 rfl)), List.forall_mem_cons.mpr ⟨va_Nw.of rfl (hts _ (tb_t5 142 rfl)), List.forall_mem_cons.mpr ⟨va_Nw.of rfl (hts _ (tb_t5 143 rfl)), List.forall_mem_cons.mpr ⟨va_Nw.of rfl (hts _ (tb_t5 144 rfl)), List.forall_mem_cons.mpr ⟨va_Nw.of rfl (hts _ (tb_t5 145 rfl)), List.forall_mem_cons.mpr ⟨va_Nw.of rfl (hts _ (tb_t5 146 rfl)), fun _ h => absurd h List.not_mem_nil⟩⟩⟩⟩⟩⟩
  · exact List.forall_mem_cons.mpr ⟨va_Nw.of rfl (hts _ (tb_t5 140 rfl)), fun _ h => absurd h List.not_mem_nil⟩
  · exact va_Zof (hts _ (tb_t1 48 rfl)) (hg _ kw3) (va_eqt (hs _ (by decide +kernel))) hA
  · exact va_Zqof (hts _ (tb_t1 64 rfl)) (hg _ kw5) (hs _ (by decide +kernel)) hA
  · exact vx_Zqof (hts _ (tb_t5 165 rfl)) (hg _ kw18) (hs _ (by decide +kernel)) hA
  · exact vx_Zqof (hts _ (tb_t5 167 rfl)) (hg _ kw18) (hs _ (by decide +kernel)) hA
