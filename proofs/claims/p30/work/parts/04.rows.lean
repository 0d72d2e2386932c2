/-! rows with numbers in Nat, a street's world, small facts -/
def jUshr (x : Int64) (y : Int32) : Int64 := (x.toUInt64 >>> (y.toInt64.toUInt64 &&& Int64.toUInt64 63)).toInt64
def jShr (x : Int64) (y : Int32) : Int64 := x >>> (y.toInt64 &&& 63)
def jShl (x : Int64) (y : Int32) : Int64 := x <<< (y.toInt64 &&& 63)
def jChar (x : Int32) : Int32 := (x.toUInt32 % 65536).toInt32
theorem in_of {i : Int32} {n : Nat} (h0 : ¬ i < 0) (h1 : ¬ nI n ≤ i) (hn : n < 2 ^ 31) : vp_in i n := by
  rw [Int32.lt_iff_toInt_lt, Int32.toInt_zero] at h0
  rw [Int32.le_iff_toInt_le, nI_toInt hn] at h1
  exact vp_in_iff.mpr ⟨by omega, by omega⟩
theorem in_ofl {i : Int32} {n : Nat} (h0 : ¬ i < 0) (h1 : i < nI n) (hn : n < 2 ^ 31) : vp_in i n := by
  rw [Int32.lt_iff_toInt_lt, Int32.toInt_zero] at h0
  rw [Int32.lt_iff_toInt_lt, nI_toInt hn] at h1
  exact vp_in_iff.mpr ⟨by omega, by omega⟩
theorem fb_rng' (x : Int32) : -2147483648 ≤ x.toInt ∧ x.toInt < 2147483648 := by
  have h1 := Int32.le_toInt x
  have h2 := Int32.toInt_lt x
  omega
theorem kV {y : Int32} {k : Nat} (h : ¬ y ≤ nI k) (hk : k < 2 ^ 31) : k < y.toNatClampNeg := by
  rw [Int32.le_iff_toInt_le, nI_toInt hk] at h
  show k < y.toInt.toNat
  omega
theorem kN {B k : Nat} (h : ¬ nI B ≤ nI k) (hB : B < 2 ^ 31) (hk : k < 2 ^ 31) : k < B := Nat.not_le.mp fun q => h (nI_le q hk)
theorem pos_ne {x : Int32} (h : 0 < x) : ¬ x = 0 := fun z => by
  rw [z, Int32.lt_iff_toInt_lt] at h
  omega
theorem npos_ne {x : Int32} (h : ¬ x ≤ 0) : ¬ x = 0 := fun z => by
  rw [z, Int32.le_iff_toInt_le] at h
  omega
theorem kV' {y : Int32} {k : Nat} (h : nI k < y) (hk : k < 2 ^ 31) : k < y.toNatClampNeg := by
  rw [Int32.lt_iff_toInt_lt, nI_toInt hk] at h
  show k < y.toInt.toNat
  omega
theorem clamp_lt (y : Int32) : y.toNatClampNeg < 2 ^ 31 := by
  have h := (fb_rng' y).2
  show y.toInt.toNat < 2 ^ 31
  omega
theorem nar_b {x : Int32} (h : x = 0 ∨ x = 1) : narrow .boolean (.int x) = .int x := by
  rcases h with h | h <;> rw [h] <;> rfl
theorem tab_3 {x : Int32} (h0 : ¬ x = 0) (h1 : ¬ x = 1) (h2 : ¬ x = 2) : x.toInt < 0 ∨ 2 < x.toInt := by
  have a0 : x.toInt ≠ 0 := fun z => h0 (Int32.toInt_inj.mp (z.trans (by decide)))
  have a1 : x.toInt ≠ 1 := fun z => h1 (Int32.toInt_inj.mp (z.trans (by decide)))
  have a2 : x.toInt ≠ 2 := fun z => h2 (Int32.toInt_inj.mp (z.trans (by decide)))
  omega
theorem tab_4 {x : Int32} (h0 : ¬ x = 0) (h1 : ¬ x = 1) (h2 : ¬ x = 2) (h3 : ¬ x = 3) : x.toInt < 0 ∨ 3 < x.toInt := by
  have a0 : x.toInt ≠ 0 := fun z => h0 (Int32.toInt_inj.mp (z.trans (by decide)))
  have a1 : x.toInt ≠ 1 := fun z => h1 (Int32.toInt_inj.mp (z.trans (by decide)))
  have a2 : x.toInt ≠ 2 := fun z => h2 (Int32.toInt_inj.mp (z.trans (by decide)))
  have a3 : x.toInt ≠ 3 := fun z => h3 (Int32.toInt_inj.mp (z.trans (by decide)))
  omega
theorem tab_5 {x : Int32} (h0 : ¬ x = 0) (h1 : ¬ x = 1) (h2 : ¬ x = 2) (h3 : ¬ x = 3) (h4 : ¬ x = 4) : x.toInt < 0 ∨ 4 < x.toInt := by
  have a0 : x.toInt ≠ 0 := fun z => h0 (Int32.toInt_inj.mp (z.trans (by decide)))
  have a1 : x.toInt ≠ 1 := fun z => h1 (Int32.toInt_inj.mp (z.trans (by decide)))
  have a2 : x.toInt ≠ 2 := fun z => h2 (Int32.toInt_inj.mp (z.trans (by decide)))
  have a3 : x.toInt ≠ 3 := fun z => h3 (Int32.toInt_inj.mp (z.trans (by decide)))
  have a4 : x.toInt ≠ 4 := fun z => h4 (Int32.toInt_inj.mp (z.trans (by decide)))
  omega
theorem tab_6 {x : Int32} (h0 : ¬ x = 0) (h1 : ¬ x = 1) (h2 : ¬ x = 2) (h3 : ¬ x = 3) (h4 : ¬ x = 4) (h5 : ¬ x = 5) : x.toInt < 0 ∨ 5 < x.toInt := by
  have a0 : x.toInt ≠ 0 := fun z => h0 (Int32.toInt_inj.mp (z.trans (by decide)))
  have a1 : x.toInt ≠ 1 := fun z => h1 (Int32.toInt_inj.mp (z.trans (by decide)))
  have a2 : x.toInt ≠ 2 := fun z => h2 (Int32.toInt_inj.mp (z.trans (by decide)))
  have a3 : x.toInt ≠ 3 := fun z => h3 (Int32.toInt_inj.mp (z.trans (by decide)))
  have a4 : x.toInt ≠ 4 := fun z => h4 (Int32.toInt_inj.mp (z.trans (by decide)))
  have a5 : x.toInt ≠ 5 := fun z => h5 (Int32.toInt_inj.mp (z.trans (by decide)))
  omega
theorem tab_7 {x : Int32} (h0 : ¬ x = 0) (h1 : ¬ x = 1) (h2 : ¬ x = 2) (h3 : ¬ x = 3) (h4 : ¬ x = 4) (h5 : ¬ x = 5) (h6 : ¬ x = 6) : x.toInt < 0 ∨ 6 < x.toInt := by
  have a0 : x.toInt ≠ 0 := fun z => h0 (Int32.toInt_inj.mp (z.trans (by decide)))
  have a1 : x.toInt ≠ 1 := fun z => h1 (Int32.toInt_inj.mp (z.trans (by decide)))
  have a2 : x.toInt ≠ 2 := fun z => h2 (Int32.toInt_inj.mp (z.trans (by decide)))
  have a3 : x.toInt ≠ 3 := fun z => h3 (Int32.toInt_inj.mp (z.trans (by decide)))
  have a4 : x.toInt ≠ 4 := fun z => h4 (Int32.toInt_inj.mp (z.trans (by decide)))
  have a5 : x.toInt ≠ 5 := fun z => h5 (Int32.toInt_inj.mp (z.trans (by decide)))
  have a6 : x.toInt ≠ 6 := fun z => h6 (Int32.toInt_inj.mp (z.trans (by decide)))
  omega
theorem tab_8 {x : Int32} (h0 : ¬ x = 0) (h1 : ¬ x = 1) (h2 : ¬ x = 2) (h3 : ¬ x = 3) (h4 : ¬ x = 4) (h5 : ¬ x = 5) (h6 : ¬ x = 6) (h7 : ¬ x = 7) : x.toInt < 0 ∨ 7 < x.toInt := by
  have a0 : x.toInt ≠ 0 := fun z => h0 (Int32.toInt_inj.mp (z.trans (by decide)))
  have a1 : x.toInt ≠ 1 := fun z => h1 (Int32.toInt_inj.mp (z.trans (by decide)))
  have a2 : x.toInt ≠ 2 := fun z => h2 (Int32.toInt_inj.mp (z.trans (by decide)))
  have a3 : x.toInt ≠ 3 := fun z => h3 (Int32.toInt_inj.mp (z.trans (by decide)))
  have a4 : x.toInt ≠ 4 := fun z => h4 (Int32.toInt_inj.mp (z.trans (by decide)))
  have a5 : x.toInt ≠ 5 := fun z => h5 (Int32.toInt_inj.mp (z.trans (by decide)))
  have a6 : x.toInt ≠ 6 := fun z => h6 (Int32.toInt_inj.mp (z.trans (by decide)))
  have a7 : x.toInt ≠ 7 := fun z => h7 (Int32.toInt_inj.mp (z.trans (by decide)))
  omega
theorem tab_9 {x : Int32} (h0 : ¬ x = 0) (h1 : ¬ x = 1) (h2 : ¬ x = 2) (h3 : ¬ x = 3) (h4 : ¬ x = 4) (h5 : ¬ x = 5) (h6 : ¬ x = 6) (h7 : ¬ x = 7) (h8 : ¬ x = 8) : x.toInt < 0 ∨ 8 < x.toInt := by
  have a0 : x.toInt ≠ 0 := fun z => h0 (Int32.toInt_inj.mp (z.trans (by decide)))
  have a1 : x.toInt ≠ 1 := fun z => h1 (Int32.toInt_inj.mp (z.trans (by decide)))
  have a2 : x.toInt ≠ 2 := fun z => h2 (Int32.toInt_inj.mp (z.trans (by decide)))
  have a3 : x.toInt ≠ 3 := fun z => h3 (Int32.toInt_inj.mp (z.trans (by decide)))
  have a4 : x.toInt ≠ 4 := fun z => h4 (Int32.toInt_inj.mp (z.trans (by decide)))
  have a5 : x.toInt ≠ 5 := fun z => h5 (Int32.toInt_inj.mp (z.trans (by decide)))
  have a6 : x.toInt ≠ 6 := fun z => h6 (Int32.toInt_inj.mp (z.trans (by decide)))
  have a7 : x.toInt ≠ 7 := fun z => h7 (Int32.toInt_inj.mp (z.trans (by decide)))
  have a8 : x.toInt ≠ 8 := fun z => h8 (Int32.toInt_inj.mp (z.trans (by decide)))
  omega
theorem tab_10 {x : Int32} (h0 : ¬ x = 0) (h1 : ¬ x = 1) (h2 : ¬ x = 2) (h3 : ¬ x = 3) (h4 : ¬ x = 4) (h5 : ¬ x = 5) (h6 : ¬ x = 6) (h7 : ¬ x = 7) (h8 : ¬ x = 8) (h9 : ¬ x = 9) : x.toInt < 0 ∨ 9 < x.toInt := by
  have a0 : x.toInt ≠ 0 := fun z => h0 (Int32.toInt_inj.mp (z.trans (by decide)))
  have a1 : x.toInt ≠ 1 := fun z => h1 (Int32.toInt_inj.mp (z.trans (by decide)))
  have a2 : x.toInt ≠ 2 := fun z => h2 (Int32.toInt_inj.mp (z.trans (by decide)))
  have a3 : x.toInt ≠ 3 := fun z => h3 (Int32.toInt_inj.mp (z.trans (by decide)))
  have a4 : x.toInt ≠ 4 := fun z => h4 (Int32.toInt_inj.mp (z.trans (by decide)))
  have a5 : x.toInt ≠ 5 := fun z => h5 (Int32.toInt_inj.mp (z.trans (by decide)))
  have a6 : x.toInt ≠ 6 := fun z => h6 (Int32.toInt_inj.mp (z.trans (by decide)))
  have a7 : x.toInt ≠ 7 := fun z => h7 (Int32.toInt_inj.mp (z.trans (by decide)))
  have a8 : x.toInt ≠ 8 := fun z => h8 (Int32.toInt_inj.mp (z.trans (by decide)))
  have a9 : x.toInt ≠ 9 := fun z => h9 (Int32.toInt_inj.mp (z.trans (by decide)))
  omega
theorem tab_11 {x : Int32} (h0 : ¬ x = 0) (h1 : ¬ x = 1) (h2 : ¬ x = 2) (h3 : ¬ x = 3) (h4 : ¬ x = 4) (h5 : ¬ x = 5) (h6 : ¬ x = 6) (h7 : ¬ x = 7) (h8 : ¬ x = 8) (h9 : ¬ x = 9) (h10 : ¬ x = 10) : x.toInt < 0 ∨ 10 < x.toInt := by
  have a0 : x.toInt ≠ 0 := fun z => h0 (Int32.toInt_inj.mp (z.trans (by decide)))
  have a1 : x.toInt ≠ 1 := fun z => h1 (Int32.toInt_inj.mp (z.trans (by decide)))
  have a2 : x.toInt ≠ 2 := fun z => h2 (Int32.toInt_inj.mp (z.trans (by decide)))
  have a3 : x.toInt ≠ 3 := fun z => h3 (Int32.toInt_inj.mp (z.trans (by decide)))
  have a4 : x.toInt ≠ 4 := fun z => h4 (Int32.toInt_inj.mp (z.trans (by decide)))
  have a5 : x.toInt ≠ 5 := fun z => h5 (Int32.toInt_inj.mp (z.trans (by decide)))
  have a6 : x.toInt ≠ 6 := fun z => h6 (Int32.toInt_inj.mp (z.trans (by decide)))
  have a7 : x.toInt ≠ 7 := fun z => h7 (Int32.toInt_inj.mp (z.trans (by decide)))
  have a8 : x.toInt ≠ 8 := fun z => h8 (Int32.toInt_inj.mp (z.trans (by decide)))
  have a9 : x.toInt ≠ 9 := fun z => h9 (Int32.toInt_inj.mp (z.trans (by decide)))
  have a10 : x.toInt ≠ 10 := fun z => h10 (Int32.toInt_inj.mp (z.trans (by decide)))
  omega
theorem tab_12 {x : Int32} (h0 : ¬ x = 0) (h1 : ¬ x = 1) (h2 : ¬ x = 2) (h3 : ¬ x = 3) (h4 : ¬ x = 4) (h5 : ¬ x = 5) (h6 : ¬ x = 6) (h7 : ¬ x = 7) (h8 : ¬ x = 8) (h9 : ¬ x = 9) (h10 : ¬ x = 10) (h11 : ¬ x = 11) : x.toInt < 0 ∨ 11 < x.toInt := by
  have a0 : x.toInt ≠ 0 := fun z => h0 (Int32.toInt_inj.mp (z.trans (by decide)))
  have a1 : x.toInt ≠ 1 := fun z => h1 (Int32.toInt_inj.mp (z.trans (by decide)))
  have a2 : x.toInt ≠ 2 := fun z => h2 (Int32.toInt_inj.mp (z.trans (by decide)))
  have a3 : x.toInt ≠ 3 := fun z => h3 (Int32.toInt_inj.mp (z.trans (by decide)))
  have a4 : x.toInt ≠ 4 := fun z => h4 (Int32.toInt_inj.mp (z.trans (by decide)))
  have a5 : x.toInt ≠ 5 := fun z => h5 (Int32.toInt_inj.mp (z.trans (by decide)))
  have a6 : x.toInt ≠ 6 := fun z => h6 (Int32.toInt_inj.mp (z.trans (by decide)))
  have a7 : x.toInt ≠ 7 := fun z => h7 (Int32.toInt_inj.mp (z.trans (by decide)))
  have a8 : x.toInt ≠ 8 := fun z => h8 (Int32.toInt_inj.mp (z.trans (by decide)))
  have a9 : x.toInt ≠ 9 := fun z => h9 (Int32.toInt_inj.mp (z.trans (by decide)))
  have a10 : x.toInt ≠ 10 := fun z => h10 (Int32.toInt_inj.mp (z.trans (by decide)))
  have a11 : x.toInt ≠ 11 := fun z => h11 (Int32.toInt_inj.mp (z.trans (by decide)))
  omega
section QR
variable {p : Program} {l : Launch} {e : Env} {R : Room} {s : State} {m : MethodId} {args : Array Value} {below : List Frame} {meth : Method} {c : Code} {H : Heap} {locs : List Loc} {cells slots : Nat} {Q : State → Prop}
variable {cc : ByteArray} {pc : Nat} {ls : Array Slot} {rest : List Value} {D : va_G} {cl : List vw_C} {ws : va_W} {tys : List (ClassId × FieldType)} {a : Nat} {A : Nat → Prop} {H0 : Heap}
theorem iald_n (hexec : p.tables.exec = Jvm.exec) (hb : c.code = cc) (hK : va_K D cl tys s) (hP : va_P D cl ws H) (q0 t0 : Nat) {cA : ClassId} {n : Nat} {f : Nat → Int32} (ha : ws[q0]? = some (a, .inl (cA, n, .inl f))) (ht : tys[t0]? = some (cA, .int)) {k : Nat} (hin : k < n) (hn : n < 2 ^ 31) (hdg : decode cc pc = .ok (.iaload, 1))
    (kk : W p l e R s m args below meth c H locs cells slots Q (F0 m (pc + 1) ls (.int (f k) :: rest))) : W p l e R s m args below meth c H locs cells slots Q (F0 m pc ls (.int (nI k) :: .ref a :: rest)) := by
  refine va_iald hexec hb hK hP q0 t0 ha ht (vp_in_nI hin hn) hdg ?_
  rw [nI_clamp (by omega)]
  exact kk
theorem cald_n (hexec : p.tables.exec = Jvm.exec) (hb : c.code = cc) (hK : va_K D cl tys s) (hP : va_P D cl ws H) (q0 t0 : Nat) {cA : ClassId} {n : Nat} {f : Nat → Int32} (ha : ws[q0]? = some (a, .inl (cA, n, .inl f))) (ht : tys[t0]? = some (cA, .char)) {k : Nat} (hin : k < n) (hn : n < 2 ^ 31) (hdg : decode cc pc = .ok (.caload, 1))
    (kk : W p l e R s m args below meth c H locs cells slots Q (F0 m (pc + 1) ls (.int (f k) :: rest))) : W p l e R s m args below meth c H locs cells slots Q (F0 m pc ls (.int (nI k) :: .ref a :: rest)) := by
  refine va_cald hexec hb hK hP q0 t0 ha ht (vp_in_nI hin hn) hdg ?_
  rw [nI_clamp (by omega)]
  exact kk
theorem iast_n (hexec : p.tables.exec = Jvm.exec) (hb : c.code = cc) (hK : va_K D cl tys s) (hP : va_P D cl ws H) (hD : va_D A ws) (hS : va_S A H0 H locs) (q0 t0 : Nat) {cA : ClassId} {n : Nat} {f : Nat → Int32} (ha : ws[q0]? = some (a, .inl (cA, n, .inl f))) (ht : tys[t0]? = some (cA, .int)) {k : Nat} {x : Int32} (hin : k < n) (hn : n < 2 ^ 31) (hdg : decode cc pc = .ok (.iastore, 1))
    (kk : ∀ (H1 : Heap) (locs1 : List Loc), va_P D cl (ws.set q0 (a, .inl (cA, n, .inl (upd f k x)))) H1 → va_D A (ws.set q0 (a, .inl (cA, n, .inl (upd f k x)))) → va_S A H0 H1 locs1 → W p l e R s m args below meth c H1 locs1 cells slots Q (F0 m (pc + 1) ls rest)) : W p l e R s m args below meth c H locs cells slots Q (F0 m pc ls (.int x :: .int (nI k) :: .ref a :: rest)) := by
  refine va_iast hexec hb hK hP hD hS q0 t0 ha ht (vp_in_nI hin hn) hdg ?_
  rw [nI_clamp (by omega)]
  exact kk
theorem iadd_n (hexec : p.tables.exec = Jvm.exec) (hb : c.code = cc) {a b : Nat} (hdg : decode cc pc = .ok (.iadd, 1))
    (k : W p l e R s m args below meth c H locs cells slots Q (F0 m (pc + 1) ls (.int (nI (a + b)) :: rest))) : W p l e R s m args below meth c H locs cells slots Q (F0 m pc ls (.int (nI b) :: .int (nI a) :: rest)) := by
  refine lv_iadd hexec hb hdg ?_
  rw [nI_add]
  exact k
theorem imul_n (hexec : p.tables.exec = Jvm.exec) (hb : c.code = cc) {a b : Nat} (hdg : decode cc pc = .ok (.imul, 1))
    (k : W p l e R s m args below meth c H locs cells slots Q (F0 m (pc + 1) ls (.int (nI (a * b)) :: rest))) : W p l e R s m args below meth c H locs cells slots Q (F0 m pc ls (.int (nI b) :: .int (nI a) :: rest)) := by
  refine lv_imul hexec hb hdg ?_
  rw [pk_mul]
  exact k
/-- what was only read is still there -/
theorem ro {A : Nat → Prop} {H0 H : Heap} {locs : List Loc} {D : va_G} {cl : List vw_C} {ws : va_W} (hS : va_S A H0 H locs) (h : va_P D cl ws H0) (hd : ∀ (k : Nat) (q : Nat × va_E), ws[k]? = some q → ¬ A q.1) : va_P D cl ws H :=
  h.kept fun k q hk => hS.2.1 q.1 (h k q hk).lt (hd k q hk)
theorem mvP {fr : Nat → Prop} {H1 : Heap} (h : va_P D cl ws H) (hk : ∀ q : Nat, q < H.size → ¬ fr q → H1[q]? = H[q]?) (hd : ∀ (k : Nat) (q : Nat × va_E), ws[k]? = some q → ¬ fr q.1) : va_P D cl ws H1 :=
  h.kept fun k q hq => hk q.1 (h k q hq).lt (hd k q hq)
end QR
-- a street: cells, gapSizes, lengths, stays, states, places, parkedMinutes, roundMinutes, came, clock, chance, rule, room, patience
abbrev Rw : Type := Nat → Int32
abbrev St : Type := Rw × Rw × Rw × Rw × Rw × Rw × Rw × Rw × Int32 × Int32 × Int64 × Int32 × Int32 × Int32
def sC (S : St) : Rw := S.1
def sG (S : St) : Rw := S.2.1
def sL (S : St) : Rw := S.2.2.1
def sY (S : St) : Rw := S.2.2.2.1
def sT (S : St) : Rw := S.2.2.2.2.1
def sP (S : St) : Rw := S.2.2.2.2.2.1
def sK (S : St) : Rw := S.2.2.2.2.2.2.1
def sR (S : St) : Rw := S.2.2.2.2.2.2.2.1
def sN (S : St) : Int32 := S.2.2.2.2.2.2.2.2.1
def sM (S : St) : Int32 := S.2.2.2.2.2.2.2.2.2.1
def sH (S : St) : Int64 := S.2.2.2.2.2.2.2.2.2.2.1
def sU (S : St) : Int32 := S.2.2.2.2.2.2.2.2.2.2.2.1
def sO (S : St) : Int32 := S.2.2.2.2.2.2.2.2.2.2.2.2.1
def sE (S : St) : Int32 := S.2.2.2.2.2.2.2.2.2.2.2.2.2
def wC (S : St) (v : Rw) : St := (v, S.2)
def wG (S : St) (v : Rw) : St := (S.1, v, S.2.2)
def wL (S : St) (v : Rw) : St := (S.1, S.2.1, v, S.2.2.2)
def wY (S : St) (v : Rw) : St := (S.1, S.2.1, S.2.2.1, v, S.2.2.2.2)
def wT (S : St) (v : Rw) : St := (S.1, S.2.1, S.2.2.1, S.2.2.2.1, v, S.2.2.2.2.2)
def wP (S : St) (v : Rw) : St := (S.1, S.2.1, S.2.2.1, S.2.2.2.1, S.2.2.2.2.1, v, S.2.2.2.2.2.2)
def wK (S : St) (v : Rw) : St := (S.1, S.2.1, S.2.2.1, S.2.2.2.1, S.2.2.2.2.1, S.2.2.2.2.2.1, v, S.2.2.2.2.2.2.2)
def wR (S : St) (v : Rw) : St := (S.1, S.2.1, S.2.2.1, S.2.2.2.1, S.2.2.2.2.1, S.2.2.2.2.2.1, S.2.2.2.2.2.2.1, v, S.2.2.2.2.2.2.2.2)
def wN (S : St) (v : Int32) : St := (S.1, S.2.1, S.2.2.1, S.2.2.2.1, S.2.2.2.2.1, S.2.2.2.2.2.1, S.2.2.2.2.2.2.1, S.2.2.2.2.2.2.2.1, v, S.2.2.2.2.2.2.2.2.2)
def wM (S : St) (v : Int32) : St := (S.1, S.2.1, S.2.2.1, S.2.2.2.1, S.2.2.2.2.1, S.2.2.2.2.2.1, S.2.2.2.2.2.2.1, S.2.2.2.2.2.2.2.1, S.2.2.2.2.2.2.2.2.1, v, S.2.2.2.2.2.2.2.2.2.2)
def wH (S : St) (v : Int64) : St := (S.1, S.2.1, S.2.2.1, S.2.2.2.1, S.2.2.2.2.1, S.2.2.2.2.2.1, S.2.2.2.2.2.2.1, S.2.2.2.2.2.2.2.1, S.2.2.2.2.2.2.2.2.1, S.2.2.2.2.2.2.2.2.2.1, v, S.2.2.2.2.2.2.2.2.2.2.2)
def wU (S : St) (v : Int32) : St := (S.1, S.2.1, S.2.2.1, S.2.2.2.1, S.2.2.2.2.1, S.2.2.2.2.2.1, S.2.2.2.2.2.2.1, S.2.2.2.2.2.2.2.1, S.2.2.2.2.2.2.2.2.1, S.2.2.2.2.2.2.2.2.2.1, S.2.2.2.2.2.2.2.2.2.2.1, v, S.2.2.2.2.2.2.2.2.2.2.2.2)
def wO (S : St) (v : Int32) : St := (S.1, S.2.1, S.2.2.1, S.2.2.2.1, S.2.2.2.2.1, S.2.2.2.2.2.1, S.2.2.2.2.2.2.1, S.2.2.2.2.2.2.2.1, S.2.2.2.2.2.2.2.2.1, S.2.2.2.2.2.2.2.2.2.1, S.2.2.2.2.2.2.2.2.2.2.1, S.2.2.2.2.2.2.2.2.2.2.2.1, v, S.2.2.2.2.2.2.2.2.2.2.2.2.2)
def wE (S : St) (v : Int32) : St := (S.1, S.2.1, S.2.2.1, S.2.2.2.1, S.2.2.2.2.1, S.2.2.2.2.2.1, S.2.2.2.2.2.2.1, S.2.2.2.2.2.2.2.1, S.2.2.2.2.2.2.2.2.1, S.2.2.2.2.2.2.2.2.2.1, S.2.2.2.2.2.2.2.2.2.2.1, S.2.2.2.2.2.2.2.2.2.2.2.1, S.2.2.2.2.2.2.2.2.2.2.2.2.1, v)
abbrev stW (G : GG) (a : Nat) (S : St) : va_W := [(a, .inr (2, [.ref (a + 1), .ref (a + 2), .ref (a + 3), .ref (a + 4), .ref (a + 5), .ref (a + 6), .ref (a + 7), .ref (a + 8), .int (sN S), .int (sM S), .long (sH S), .int (sU S), .int (sO S), .int (sE S)])),
  (a + 1, .inl (G.2 0, 80, .inl (sC S))), (a + 2, .inl (G.2 0, 80, .inl (sG S))), (a + 3, .inl (G.2 0, 40, .inl (sL S))), (a + 4, .inl (G.2 0, 40, .inl (sY S))), (a + 5, .inl (G.2 0, 40, .inl (sT S))), (a + 6, .inl (G.2 0, 40, .inl (sP S))), (a + 7, .inl (G.2 0, 40, .inl (sK S))), (a + 8, .inl (G.2 0, 40, .inl (sR S)))]
abbrev Str (G : GG) (a : Nat) (S : St) (H : Heap) : Prop := va_P G.1 vwCl (stW G a S) H
theorem st_adr (G : GG) (a : Nat) (S : St) : ∀ (k : Nat) (q : Nat × va_E), (stW G a S)[k]? = some q → q.1 = a + k := by
  intro k q hk
  have hl := (List.getElem?_eq_some_iff.mp hk).1
  match k, hk with
  | 0, hk => cases hk; rfl
  | 1, hk => cases hk; rfl
  | 2, hk => cases hk; rfl
  | 3, hk => cases hk; rfl
  | 4, hk => cases hk; rfl
  | 5, hk => cases hk; rfl
  | 6, hk => cases hk; rfl
  | 7, hk => cases hk; rfl
  | 8, hk => cases hk; rfl
  | k + 9, hk =>
    have h9 : k + 9 < 9 := hl
    omega
theorem st_len (G : GG) (a : Nat) (S : St) : (stW G a S).length = 9 := rfl
theorem st_D {G : GG} {A : Nat → Prop} (a : Nat) (S : St) (hA : ∀ q, blk a (a + 9) q → A q) : va_D A (stW G a S) :=
  seq_D a _ (st_adr G a S) (fun q h1 h2 => hA q ⟨h1, by rw [st_len] at h2; exact h2⟩)
theorem st_blk {G : GG} {a : Nat} {S : St} {k : Nat} {q : Nat × va_E} (h : (stW G a S)[k]? = some q) : a ≤ q.1 ∧ q.1 < a + 9 := by
  have h1 := st_adr G a S k q h
  have h2 := (List.getElem?_eq_some_iff.mp h).1
  rw [st_len] at h2
  omega
theorem st_recv {G : GG} {s : State} {H : Heap} {a : Nat} {S : St} (hO : Ok G s) (hP : Str G a S H) : ∃ cell : Cell, H[a]? = some cell ∧ cell.vm.isStatics = false ∧ s.vm.findClass RX4 = some cell.cls := va_recv hO.1 hP (ci := 2) (q0 := 0) rfl rfl
/-- a row of the street was written by a callee -/
theorem st_row {G : GG} {a : Nat} {S : St} {H H1 : Heap} (p : Nat) {b n : Nat} {f f1 : Rw} (hP : Str G a S H) (hp : (stW G a S)[p]? = some (b, .inl (G.2 0, n, .inl f))) (h1 : Arr G 0 b n f1 H1) (hk : ∀ q : Nat, q < H.size → ¬ one b q → H1[q]? = H[q]?) : va_P G.1 vwCl ((stW G a S).set p (b, .inl (G.2 0, n, .inl f1))) H1 := by
  have hl := (List.getElem?_eq_some_iff.mp hp).1
  intro k q hq
  by_cases hkp : k = p
  · subst hkp
    rw [List.getElem?_set_self hl] at hq
    cases hq
    exact h1 0 _ rfl
  · rw [List.getElem?_set_ne (Ne.symm hkp)] at hq
    refine (hP k q hq).kept (hk q.1 (hP k q hq).lt fun z => ?_)
    have e1 := st_adr G a S k q hq
    have e2 := st_adr G a S p _ hp
    simp only [one] at z
    simp only at e2
    omega
theorem st_pN {G : GG} {a : Nat} {S : St} {v : Int32} {H : Heap} (h : va_P G.1 vwCl ((stW G a S).set 0 (a, .inr (2, ([.ref (a + 1), .ref (a + 2), .ref (a + 3), .ref (a + 4), .ref (a + 5), .ref (a + 6), .ref (a + 7), .ref (a + 8), .int (sN S), .int (sM S), .long (sH S), .int (sU S), .int (sO S), .int (sE S)] : List Value).set 8 (.int v)))) H) : Str G a (wN S v) H := h
theorem st_pM {G : GG} {a : Nat} {S : St} {v : Int32} {H : Heap} (h : va_P G.1 vwCl ((stW G a S).set 0 (a, .inr (2, ([.ref (a + 1), .ref (a + 2), .ref (a + 3), .ref (a + 4), .ref (a + 5), .ref (a + 6), .ref (a + 7), .ref (a + 8), .int (sN S), .int (sM S), .long (sH S), .int (sU S), .int (sO S), .int (sE S)] : List Value).set 9 (.int v)))) H) : Str G a (wM S v) H := h
theorem st_pH {G : GG} {a : Nat} {S : St} {v : Int64} {H : Heap} (h : va_P G.1 vwCl ((stW G a S).set 0 (a, .inr (2, ([.ref (a + 1), .ref (a + 2), .ref (a + 3), .ref (a + 4), .ref (a + 5), .ref (a + 6), .ref (a + 7), .ref (a + 8), .int (sN S), .int (sM S), .long (sH S), .int (sU S), .int (sO S), .int (sE S)] : List Value).set 10 (.long v)))) H) : Str G a (wH S v) H := h
theorem st_pU {G : GG} {a : Nat} {S : St} {v : Int32} {H : Heap} (h : va_P G.1 vwCl ((stW G a S).set 0 (a, .inr (2, ([.ref (a + 1), .ref (a + 2), .ref (a + 3), .ref (a + 4), .ref (a + 5), .ref (a + 6), .ref (a + 7), .ref (a + 8), .int (sN S), .int (sM S), .long (sH S), .int (sU S), .int (sO S), .int (sE S)] : List Value).set 11 (.int v)))) H) : Str G a (wU S v) H := h
theorem st_pO {G : GG} {a : Nat} {S : St} {v : Int32} {H : Heap} (h : va_P G.1 vwCl ((stW G a S).set 0 (a, .inr (2, ([.ref (a + 1), .ref (a + 2), .ref (a + 3), .ref (a + 4), .ref (a + 5), .ref (a + 6), .ref (a + 7), .ref (a + 8), .int (sN S), .int (sM S), .long (sH S), .int (sU S), .int (sO S), .int (sE S)] : List Value).set 12 (.int v)))) H) : Str G a (wO S v) H := h
theorem st_pE {G : GG} {a : Nat} {S : St} {v : Int32} {H : Heap} (h : va_P G.1 vwCl ((stW G a S).set 0 (a, .inr (2, ([.ref (a + 1), .ref (a + 2), .ref (a + 3), .ref (a + 4), .ref (a + 5), .ref (a + 6), .ref (a + 7), .ref (a + 8), .int (sN S), .int (sM S), .long (sH S), .int (sU S), .int (sO S), .int (sE S)] : List Value).set 13 (.int v)))) H) : Str G a (wE S v) H := h
theorem st_pC {G : GG} {a : Nat} {S : St} {v : Rw} {H : Heap} (h : va_P G.1 vwCl ((stW G a S).set 1 (a + 1, .inl (G.2 0, 80, .inl v))) H) : Str G a (wC S v) H := h
theorem st_pG {G : GG} {a : Nat} {S : St} {v : Rw} {H : Heap} (h : va_P G.1 vwCl ((stW G a S).set 2 (a + 2, .inl (G.2 0, 80, .inl v))) H) : Str G a (wG S v) H := h
theorem st_pL {G : GG} {a : Nat} {S : St} {v : Rw} {H : Heap} (h : va_P G.1 vwCl ((stW G a S).set 3 (a + 3, .inl (G.2 0, 40, .inl v))) H) : Str G a (wL S v) H := h
theorem st_pY {G : GG} {a : Nat} {S : St} {v : Rw} {H : Heap} (h : va_P G.1 vwCl ((stW G a S).set 4 (a + 4, .inl (G.2 0, 40, .inl v))) H) : Str G a (wY S v) H := h
theorem st_pT {G : GG} {a : Nat} {S : St} {v : Rw} {H : Heap} (h : va_P G.1 vwCl ((stW G a S).set 5 (a + 5, .inl (G.2 0, 40, .inl v))) H) : Str G a (wT S v) H := h
theorem st_pP {G : GG} {a : Nat} {S : St} {v : Rw} {H : Heap} (h : va_P G.1 vwCl ((stW G a S).set 6 (a + 6, .inl (G.2 0, 40, .inl v))) H) : Str G a (wP S v) H := h
theorem st_pK {G : GG} {a : Nat} {S : St} {v : Rw} {H : Heap} (h : va_P G.1 vwCl ((stW G a S).set 7 (a + 7, .inl (G.2 0, 40, .inl v))) H) : Str G a (wK S v) H := h
theorem st_pR {G : GG} {a : Nat} {S : St} {v : Rw} {H : Heap} (h : va_P G.1 vwCl ((stW G a S).set 8 (a + 8, .inl (G.2 0, 40, .inl v))) H) : Str G a (wR S v) H := h
theorem snd_of {α β : Type} {x : α × β} {a : α} {b : β} (h : x = (a, b)) : x.2 = b := by rw [h]
theorem fst_of {α β : Type} {x : α × β} {a : α} {b : β} (h : x = (a, b)) : x.1 = a := by rw [h]
