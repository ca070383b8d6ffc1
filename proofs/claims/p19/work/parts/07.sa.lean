/-! sa: values of which only a range is known -/
section XS
variable {p : Program} {l : Launch} {e : Env} {R : Room} {s : State} {m : MethodId} {args : Array Value} {below : List Frame} {meth : Method} {c : Code} {H : Heap} {locs : List Loc} {cells slots : Nat} {Q : State → Prop}
variable {cc : ByteArray} {pc : Nat} {ls : Array Slot} {rest : List Value} {A : Nat → Prop} {a : Nat} {w w' : va_W} {G : Gc} {nL mc ms : Nat} {own : String} {y : MethodName} {rt : Option FieldType}
theorem x_gen {t : Int32} (kk : ∀ v : Int32, W p l e R s m args below meth c H locs cells slots Q (F0 m pc ls (.int v :: rest))) : W p l e R s m args below meth c H locs cells slots Q (F0 m pc ls (.int t :: rest)) := kk t
theorem x_genl {t : Int64} (kk : ∀ v : Int64, W p l e R s m args below meth c H locs cells slots Q (F0 m pc ls (.long v :: rest))) : W p l e R s m args below meth c H locs cells slots Q (F0 m pc ls (.long t :: rest)) := kk t
theorem x_genP {t : Int32} (P : Int32 → Prop) (h : P t) (kk : ∀ v : Int32, P v → W p l e R s m args below meth c H locs cells slots Q (F0 m pc ls (.int v :: rest))) : W p l e R s m args below meth c H locs cells slots Q (F0 m pc ls (.int t :: rest)) := kk t h
theorem x_genlP {t : Int64} (P : Int64 → Prop) (h : P t) (kk : ∀ v : Int64, P v → W p l e R s m args below meth c H locs cells slots Q (F0 m pc ls (.long v :: rest))) : W p l e R s m args below meth c H locs cells slots Q (F0 m pc ls (.long t :: rest)) := kk t h
theorem x_retiQ {post : Int32 → va_W → Prop} {v : Int32} {u : va_W} (hQ : Q = MQ below (va_Qi post (mB G A) A) args s mc ms A) (B : Bd p s m args meth c y cc nL (some .int)) (h : Wd G s A u H locs) (hp : post v u) (hc : cells ≤ mc) (hs : slots ≤ ms) (hdg : decode cc pc = .ok (.ireturn, 1)) :
    W p l e R s m args below meth c H locs cells slots Q (F0 m pc ls [.int v]) := by
  rw [hQ]; exact x_reti B h hp hc hs hdg
theorem x_retzQ {post : Int32 → va_W → Prop} {v : Int32} {u : va_W} {ty : FieldType} (hQ : Q = MQ below (va_Qi post (mB G A) A) args s mc ms A) (B : Bd p s m args meth c y cc nL (some ty)) (h : Wd G s A u H locs) (hn : narrow ty (.int v) = .int v) (hp : post v u) (hc : cells ≤ mc) (hs : slots ≤ ms) (hdg : decode cc pc = .ok (.ireturn, 1)) :
    W p l e R s m args below meth c H locs cells slots Q (F0 m pc ls [.int v]) := by
  rw [hQ]; exact x_retz B h hn hp hc hs hdg
theorem x_retvQ {post : va_W → Prop} {u : va_W} (hQ : Q = MQ below (va_Qv post (mB G A) A) args s mc ms A) (B : Bd p s m args meth c y cc nL none) (h : Wd G s A u H locs) (hp : post u) (hc : cells ≤ mc) (hs : slots ≤ ms) (hdg : decode cc pc = .ok (.return_, 1)) :
    W p l e R s m args below meth c H locs cells slots Q (F0 m pc ls []) := by
  rw [hQ]; exact x_retv B h hp hc hs hdg
theorem x_retlQ {post : Int64 → va_W → Prop} {v : Int64} {u : va_W} (hQ : Q = MQ below (va_Ql post (mB G A) A) args s mc ms A) (B : Bd p s m args meth c y cc nL (some .long)) (h : Wd G s A u H locs) (hp : post v u) (hc : cells ≤ mc) (hs : slots ≤ ms) (hdg : decode cc pc = .ok (.lreturn, 1)) :
    W p l e R s m args below meth c H locs cells slots Q (F0 m pc ls [.long v]) := by
  rw [hQ]; exact x_retl B h hp hc hs hdg
end XS
theorem Ci.ofQ {l : Launch} {y : MethodName} {cc : ByteArray} {mL : Nat} {rt : Option FieldType} {d mc ms : Nat} {G : Gc} {av : List Value} {w : va_W} {post : Int32 → va_W → Prop} (hy : plainName y.cls = true) (hL : (lg_sl av).length ≤ mL)
    (body : ∀ (p : Program) (e : Env) (s : State) (m : MethodId) (below : List Frame) (meth : Method) (c : Code) (ls : Array Slot) (A : Nat → Prop) (args : Array Value) (Q : State → Prop), Q = MQ below (va_Qi post (mB G A) A) args s mc ms A → Bd p s m args meth c y cc mL rt → Wd G s A w s.heap [] → lv_has ls mL (lv_args 0 av) →
      W p l e (rmD d mc ms) s m args below meth c s.heap [] 0 0 Q (F0 m 0 ls [])) : Ci l y cc mL rt d mc ms G av w post :=
  Ci.of hy hL (fun p e s m below meth c ls A B hw hl => body p e s m below meth c ls A _ _ rfl B hw hl)
theorem Cv.ofQ {l : Launch} {y : MethodName} {cc : ByteArray} {mL : Nat} {d mc ms : Nat} {G : Gc} {av : List Value} {w : va_W} {post : va_W → Prop} (hy : plainName y.cls = true) (hL : (lg_sl av).length ≤ mL)
    (body : ∀ (p : Program) (e : Env) (s : State) (m : MethodId) (below : List Frame) (meth : Method) (c : Code) (ls : Array Slot) (A : Nat → Prop) (args : Array Value) (Q : State → Prop), Q = MQ below (va_Qv post (mB G A) A) args s mc ms A → Bd p s m args meth c y cc mL none → Wd G s A w s.heap [] → lv_has ls mL (lv_args 0 av) →
      W p l e (rmD d mc ms) s m args below meth c s.heap [] 0 0 Q (F0 m 0 ls [])) : Cv l y cc mL d mc ms G av w post :=
  Cv.of hy hL (fun p e s m below meth c ls A B hw hl => body p e s m below meth c ls A _ _ rfl B hw hl)
theorem Cl.ofQ {l : Launch} {y : MethodName} {cc : ByteArray} {mL : Nat} {d mc ms : Nat} {G : Gc} {av : List Value} {w : va_W} {post : Int64 → va_W → Prop} (hy : plainName y.cls = true) (hL : (lg_sl av).length ≤ mL)
    (body : ∀ (p : Program) (e : Env) (s : State) (m : MethodId) (below : List Frame) (meth : Method) (c : Code) (ls : Array Slot) (A : Nat → Prop) (args : Array Value) (Q : State → Prop), Q = MQ below (va_Ql post (mB G A) A) args s mc ms A → Bd p s m args meth c y cc mL (some .long) → Wd G s A w s.heap [] → lv_has ls mL (lv_args 0 av) →
      W p l e (rmD d mc ms) s m args below meth c s.heap [] 0 0 Q (F0 m 0 ls [])) : Cl l y cc mL d mc ms G av w post :=
  Cl.of hy hL (fun p e s m below meth c ls A B hw hl => body p e s m below meth c ls A _ _ rfl B hw hl)
/-! ranges -/
theorem i_bd (x : Int32) : -2147483648 ≤ x.toInt ∧ x.toInt ≤ 2147483647 := by
  have h1 := Int32.toInt_lt x
  have h2 := Int32.le_toInt x
  omega
theorem i_bm {z : Int} (h1 : -2147483648 ≤ z) (h2 : z ≤ 2147483647) : z.bmod (2 ^ 32) = z := by
  apply Int.bmod_eq_of_le <;> omega
theorem i_add {x y : Int32} {X Y : Int} (hx : x.toInt = X) (hy : y.toInt = Y) (h1 : -2147483648 ≤ X + Y) (h2 : X + Y ≤ 2147483647) : (x + y).toInt = X + Y := by
  rw [Int32.toInt_add, hx, hy]; exact i_bm h1 h2
theorem i_sub {x y : Int32} {X Y : Int} (hx : x.toInt = X) (hy : y.toInt = Y) (h1 : -2147483648 ≤ X - Y) (h2 : X - Y ≤ 2147483647) : (x - y).toInt = X - Y := by
  rw [Int32.toInt_sub, hx, hy]; exact i_bm h1 h2
theorem i_mul {x y : Int32} {X Y : Int} (hx : x.toInt = X) (hy : y.toInt = Y) (h1 : -2147483648 ≤ X * Y) (h2 : X * Y ≤ 2147483647) : (x * y).toInt = X * Y := by
  rw [Int32.toInt_mul, hx, hy]; exact i_bm h1 h2
theorem i_eqT {x y : Int32} {X Y : Int} (hx : x.toInt = X) (hy : y.toInt = Y) (h : x = y) : X = Y := by rw [← hx, ← hy, h]
theorem i_eqF {x y : Int32} {X Y : Int} (hx : x.toInt = X) (hy : y.toInt = Y) (h : ¬ x = y) : X ≠ Y := fun e => h (Int32.toInt_inj.mp (hx.trans (e.trans hy.symm)))
theorem i_ltT {x y : Int32} {X Y : Int} (hx : x.toInt = X) (hy : y.toInt = Y) (h : x < y) : X < Y := by rw [← hx, ← hy]; exact Int32.lt_iff_toInt_lt.mp h
theorem i_ltF {x y : Int32} {X Y : Int} (hx : x.toInt = X) (hy : y.toInt = Y) (h : ¬ x < y) : Y ≤ X := by
  rw [← hx, ← hy]; exact Int.not_lt.mp (fun q => h (Int32.lt_iff_toInt_lt.mpr q))
theorem i_leT {x y : Int32} {X Y : Int} (hx : x.toInt = X) (hy : y.toInt = Y) (h : x ≤ y) : X ≤ Y := by rw [← hx, ← hy]; exact Int32.le_iff_toInt_le.mp h
theorem i_leF {x y : Int32} {X Y : Int} (hx : x.toInt = X) (hy : y.toInt = Y) (h : ¬ x ≤ y) : Y < X := by
  rw [← hx, ← hy]; exact Int.not_le.mp (fun q => h (Int32.le_iff_toInt_le.mpr q))
theorem i_cn (i : Int32) : i.toNatClampNeg = i.toInt.toNat := rfl
theorem i_in {i : Int32} {n : Nat} (h0 : 0 ≤ i.toInt) (h1 : i.toInt < n) : vp_in i n := by
  show ¬ (i < 0 ∨ n ≤ i.toNatClampNeg)
  rw [Int32.lt_iff_toInt_lt, i_cn]
  have e : (0 : Int32).toInt = 0 := rfl
  omega
theorem i_cl {i : Int32} {n : Nat} (h0 : 0 ≤ i.toInt) (h1 : i.toInt < n) : i.toNatClampNeg < n := by
  rw [i_cn]; omega
theorem i_ne0 {x : Int32} (h : x.toInt ≠ 0) : x ≠ 0 := fun e => h (by rw [e]; rfl)
theorem i_eqL {x y : Int32} {Y : Int} (hy : y.toInt = Y) (h : x.toInt = Y) : x = y := Int32.toInt_inj.mp (h.trans hy.symm)
theorem i_nat {x : Int32} (h : 0 ≤ x.toInt) : ∃ j : Nat, j < 2 ^ 31 ∧ x = nI j ∧ x.toInt = j := by
  obtain ⟨j, hj, e⟩ := nI_of (show ¬ x < 0 from fun q => by
    have := i_ltT (Y := 0) rfl rfl q
    omega)
  exact ⟨j, hj, e, by rw [e]; exact nI_toInt hj⟩
theorem i_shl1 {y : Int32} (h0 : 0 ≤ y.toInt) (h1 : y.toInt ≤ 8) : 1 ≤ ((1 : Int32) <<< (y &&& 31)).toInt ∧ ((1 : Int32) <<< (y &&& 31)).toInt ≤ 256 := by
  obtain ⟨j, hj, e, ej⟩ := i_nat h0
  have h8 : j ≤ 8 := by omega
  rw [e]
  have : ∀ j : Nat, j ≤ 8 → 1 ≤ ((1 : Int32) <<< (nI j &&& 31)).toInt ∧ ((1 : Int32) <<< (nI j &&& 31)).toInt ≤ 256 := by
    intro j hj
    match j, hj with
    | 0, _ => decide
    | 1, _ => decide
    | 2, _ => decide
    | 3, _ => decide
    | 4, _ => decide
    | 5, _ => decide
    | 6, _ => decide
    | 7, _ => decide
    | 8, _ => decide
  exact this j h8
theorem i_andR {x m : Int32} {Z : Int} (k : Nat) (hm : m.toBitVec.toNat = 2 ^ k - 1) (hk : k < 31) (hZ : ((2 ^ k - 1 : Nat) : Int) = Z) : 0 ≤ (x &&& m).toInt ∧ (x &&& m).toInt ≤ Z := by
  obtain ⟨j, hj, ej⟩ := pk_andE x (m := m) k hm
  have h2 : (2 : Nat) ^ k < 2 ^ 31 := Nat.pow_lt_pow_right (by decide) hk
  rw [ej, nI_toInt (by omega), ← hZ]
  omega
theorem i_andL {x m : Int32} {Z : Int} (k : Nat) (hm : m.toBitVec.toNat = 2 ^ k - 1) (hk : k < 31) (hZ : ((2 ^ k - 1 : Nat) : Int) = Z) : 0 ≤ (m &&& x).toInt ∧ (m &&& x).toInt ≤ Z := by
  rw [Int32.and_comm]; exact i_andR k hm hk hZ
theorem i_isB {v : Int32} (h0 : 0 ≤ v.toInt) (h1 : v.toInt ≤ 1) : isB v := by
  have h : v.toInt = 0 ∨ v.toInt = 1 := by omega
  rcases h with h | h
  · rw [i_eqL (y := 0) rfl h]; exact isB0
  · rw [i_eqL (y := 1) rfl h]; exact isB1
/-- every element of a row lies between -/
def inA (n : Nat) (lo hi : Int) (f : Nat → Int32) : Prop := ∀ k, k < n → lo ≤ (f k).toInt ∧ (f k).toInt ≤ hi
theorem inA_upd {n : Nat} {lo hi : Int} {f : Nat → Int32} {i : Nat} {v : Int32} (h : inA n lo hi f) (hv : lo ≤ v.toInt ∧ v.toInt ≤ hi) : inA n lo hi (upd f i v) := by
  intro k hk
  simp only [upd]
  split
  · exact hv
  · exact h k hk
theorem i_cpyF {n : Nat} {lo hi : Int} {f g : Nat → Int32} (h : inA n lo hi f) : inA n lo hi (va_cpy f g 0 0 n) := by
  intro k hk
  simp only [va_cpy]
  rw [if_pos (by omega)]
  exact h _ (by omega)
theorem i_ushr8 (x : Int32) : 0 ≤ (x.toUInt32 >>> ((8 : Int32).toUInt32 &&& Int32.toUInt32 31)).toInt32.toInt ∧ (x.toUInt32 >>> ((8 : Int32).toUInt32 &&& Int32.toUInt32 31)).toInt32.toInt ≤ 16777215 := by
  have e : ((8 : Int32).toUInt32 &&& Int32.toUInt32 31) = 8 := by decide
  rw [e]
  have h1 : (x.toUInt32 >>> 8).toNat < 16777216 := by
    rw [UInt32.toNat_shiftRight]
    have : x.toUInt32.toNat < 2 ^ 32 := x.toUInt32.toNat_lt
    have e8 : (8 : UInt32).toNat % 32 = 8 := by decide
    rw [e8, Nat.shiftRight_eq_div_pow]
    omega
  have h2 : (x.toUInt32 >>> 8).toInt32.toInt = ((x.toUInt32 >>> 8).toNat : Int) := by
    show (x.toUInt32 >>> 8).toBitVec.toInt = _
    rw [BitVec.toInt_eq_toNat_bmod]
    show Int.bmod ((x.toUInt32 >>> 8).toNat : Int) (2 ^ 32) = _
    apply Int.bmod_eq_of_le <;> omega
  rw [h2]
  omega
theorem i_remL {x y : Int32} {X Y : Int} (hx : x.toInt = X) (hy : y.toInt = Y) (h0 : 0 ≤ X) (h1 : 0 < Y) : (x - x / y * y).toInt = X % Y := by
  have bx := i_bd x
  have by' := i_bd y
  have hd : (x / y).toInt = X / Y := by
    rw [Int32.toInt_div, hx, hy, Int.tdiv_eq_ediv_of_nonneg h0]
    have q0 : 0 ≤ X / Y := Int.ediv_nonneg h0 (by omega)
    have q1 : X / Y ≤ X := Int.ediv_le_self _ h0
    exact i_bm (by omega) (by omega)
  have e := Int.emod_add_mul_ediv X Y
  have m0 := Int.emod_nonneg X (show Y ≠ 0 by omega)
  have m1 := Int.emod_lt_of_pos X h1
  have q0 : 0 ≤ X / Y := Int.ediv_nonneg h0 (by omega)
  have hm0 : 0 ≤ Y * (X / Y) := Int.mul_nonneg (by omega) q0
  have hm : (x / y * y).toInt = X / Y * Y := i_mul hd hy (by rw [Int.mul_comm]; omega) (by rw [Int.mul_comm]; omega)
  have hs : (x - x / y * y).toInt = X - X / Y * Y := i_sub hx hm (by rw [Int.mul_comm]; omega) (by rw [Int.mul_comm]; omega)
  rw [hs, Int.mul_comm]
  omega
theorem i_rem {x y : Int32} {X Y : Int} (hx : x.toInt = X) (hy : y.toInt = Y) (h0 : 0 ≤ X) (h1 : 0 < Y) : (0 ≤ (x - x / y * y).toInt ∧ (x - x / y * y).toInt < Y) ∧ (x - x / y * y).toInt ≤ X := by
  rw [i_remL hx hy h0 h1]
  have e := Int.emod_add_mul_ediv X Y
  have q0 : 0 ≤ X / Y := Int.ediv_nonneg h0 (by omega)
  have hm0 : 0 ≤ Y * (X / Y) := Int.mul_nonneg (by omega) q0
  exact ⟨⟨Int.emod_nonneg X (show Y ≠ 0 by omega), Int.emod_lt_of_pos X h1⟩, by omega⟩
theorem i_lk {a o d k off : Int} {r : List (Int × Int)} (h : a ≠ k) (t : Op.lookupswitch.offset r d k = off) : Op.lookupswitch.offset ((a, o) :: r) d k = off := by
  rw [Op.lookupswitch.offset_cons, if_neg h]; exact t
/-- a SENTENCE's parts: behind 'like' stands a slide -/
def seI (K N : Nat → Int32) : Prop := ∀ k, k < 40 → (K k).toInt = 22 → 0 ≤ (N k).toInt ∧ (N k).toInt ≤ 5
theorem seI_upd {K N : Nat → Int32} {i : Nat} {a b : Int32} (h : seI K N) (hab : a.toInt = 22 → 0 ≤ b.toInt ∧ b.toInt ≤ 5) : seI (upd K i a) (upd N i b) := by
  intro k hk
  simp only [upd]
  by_cases e : k = i
  · rw [if_pos e, if_pos e]; exact hab
  · rw [if_neg e, if_neg e]; exact h k hk
theorem va_cpy_at {α : Type} {f g : Nat → α} {n k : Nat} (hk : k < n) : va_cpy f g 0 0 n k = f k := by
  simp only [va_cpy]
  rw [if_pos (by omega)]
  simp
theorem seI_cpy {K N K' N' : Nat → Int32} (h : seI K N) : seI (va_cpy K K' 0 0 40) (va_cpy N N' 0 0 40) := by
  intro k hk
  rw [va_cpy_at hk, va_cpy_at hk]
  exact h k hk
/-- a BOOK's lines: who is a slide -/
def bkI (K W F : Nat → Int32) : Prop := ∀ k, k < 40 → ((11 ≤ (K k).toInt ∧ (K k).toInt ≤ 13 → 0 ≤ (W k).toInt ∧ (W k).toInt ≤ 5) ∧ ((K k).toInt = 12 → 0 ≤ (F k).toInt ∧ (F k).toInt ≤ 5))
theorem bkI_upd {K W F : Nat → Int32} {i : Nat} {a b d : Int32} (h : bkI K W F) (h1 : 11 ≤ a.toInt ∧ a.toInt ≤ 13 → 0 ≤ b.toInt ∧ b.toInt ≤ 5) (h2 : a.toInt = 12 → 0 ≤ d.toInt ∧ d.toInt ≤ 5) : bkI (upd K i a) (upd W i b) (upd F i d) := by
  intro k hk
  simp only [upd]
  by_cases e : k = i
  · rw [if_pos e, if_pos e, if_pos e]; exact ⟨h1, h2⟩
  · rw [if_neg e, if_neg e, if_neg e]; exact h k hk
