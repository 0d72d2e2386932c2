/-! the law: two objects, a script, and what is told the same -/
/-- what an operation owes: the status, the answer, and the two again as one -/
def OpOk (P : Cx → Mo → Prop) (w : Int32 × Wx) (q : Int32 × Mo) : Prop := f_X7_thrown q.2 = w.1 ∧ P w.2.1 q.2 ∧ (w.1 = 0 → w.2.2 (0 : Int32).toNatClampNeg = q.1.toInt64)
def L27 (P : Cx → Mo → Prop) : Prop :=
  (P cx1 md1) ∧
  (∀ (X : Cx) (M : Mo), P X M → qO (xH X) < 14) ∧
  (∀ (X : Cx) (M : Mo), P X M → qK (xH X) ≤ 14) ∧
  (∀ (X : Cx) (M : Mo), P X M → mZ M = nI (zz M)) ∧
  (∀ (X : Cx) (M : Mo), P X M → zz M ≤ 120) ∧
  (∀ (X : Cx) (M : Mo), P X M → RI (mN M)) ∧
  (∀ (X : Cx) (M : Mo), P X M → mC M = nI (ac M)) ∧
  (∀ (X : Cx) (M : Mo), P X M → ac M ≤ 14) ∧
  (∀ (X : Cx) (M : Mo) (f : Nat → Int64) (c : Int32), P X M → OpOk P (wr "java/lang/IllegalArgumentException" (h_X6_append X c) (X, f)) (h_X7_append M c)) ∧
  (∀ (X : Cx) (M : Mo), P X M → (h_X6_clearText X).1 = (h_X7_clearText M).1 ∧ P (h_X6_clearText X).2 (h_X7_clearText M).2) ∧
  (∀ (X : Cx) (M : Mo), P X M → (h_X6_errorPosition X).1 = (h_X7_errorPosition M).1 ∧ P (h_X6_errorPosition X).2 (h_X7_errorPosition M).2) ∧
  (∀ (X : Cx) (M : Mo) (f : Nat → Int64), P X M → OpOk P (wr "java/lang/IllegalStateException" (h_X6_load X) (X, f)) (h_X7_load M)) ∧
  (∀ (X : Cx) (M : Mo) (f : Nat → Int64) (w : Int32), P X M → OpOk P (wr "java/lang/IllegalArgumentException" (h_X6_about X w) (X, f)) (h_X7_about M w)) ∧
  (∀ (X : Cx) (M : Mo) (f : Nat → Int64) (c : Int32) (w : Int32), P X M → OpOk P (wr "java/lang/IndexOutOfBoundsException" (h_X6_carOf X c w) (X, f)) (h_X7_carOf M c w)) ∧
  (∀ (X : Cx) (M : Mo) (f : Nat → Int64) (x : Int32), P X M → OpOk P (wr "java/lang/IndexOutOfBoundsException" (h_X6_at X x) (X, f)) (h_X7_at M x)) ∧
  (∀ (X : Cx) (M : Mo) (f : Nat → Int64) (k : Int32) (w : Int32), P X M → OpOk P (wr "java/lang/IndexOutOfBoundsException" (h_X6_gap X k w) (X, f)) (h_X7_gap M k w)) ∧
  (∀ (X : Cx) (M : Mo) (f : Nat → Int64) (w : Int32), P X M → OpOk P (wr "java/lang/IllegalArgumentException" (h_X6_setting X w) (X, f)) (h_X7_setting M w)) ∧
  (∀ (X : Cx) (M : Mo) (f : Nat → Int64) (x : Int32) (on : Int32), P X M → on = 0 ∨ on = 1 → OpOk P (wr "java/lang/IndexOutOfBoundsException" (h_X6_hydrant X x on) (X, f)) (h_X7_hydrant M x on)) ∧
  (∀ (X : Cx) (M : Mo) (f : Nat → Int64) (len : Int32) (stay : Int32), P X M → OpOk P (wr "java/lang/IllegalArgumentException" (h_X6_come X len stay) (X, f)) (h_X7_come M len stay)) ∧
  (∀ (X : Cx) (M : Mo) (f : Nat → Int64) (c : Int32), P X M → OpOk P (wr "java/lang/IndexOutOfBoundsException" (h_X6_leave X c) (X, f)) (h_X7_leave M c)) ∧
  (∀ (X : Cx) (M : Mo) (f : Nat → Int64) (c : Int32), P X M → OpOk P (wr "java/lang/IndexOutOfBoundsException" (h_X6_tow X c) (X, f)) (h_X7_tow M c)) ∧
  (∀ (X : Cx) (M : Mo) (f : Nat → Int64) (c : Int32) (x : Int32), P X M → OpOk P (wr "java/lang/IndexOutOfBoundsException" (h_X6_move X c x) (X, f)) (h_X7_move M c x)) ∧
  (∀ (X : Cx) (M : Mo) (f : Nat → Int64) (mi : Int32), P X M → OpOk P (wr "java/lang/IllegalArgumentException" (h_X6_minutes X mi) (X, f)) (h_X7_minutes M mi)) ∧
  (∀ (X : Cx) (M : Mo) (f : Nat → Int64) (w : Int32) (v : Int32), P X M → OpOk P (wr "java/lang/IllegalArgumentException" (h_X6_set X w v) (X, f)) (h_X7_set M w v)) ∧
  (∀ (X : Cx) (M : Mo) (f : Nat → Int64), P X M → OpOk P (wr "java/lang/IllegalStateException" (h_X6_undo X) (X, f)) (h_X7_undo M)) ∧
  (∀ (X : Cx) (M : Mo) (f : Nat → Int64) (len : Int32), P X M → OpOk P (wr "java/lang/IllegalArgumentException" (h_X6_why X len) (X, f)) (h_X7_why M len)) ∧
  (∀ (X : Cx) (M : Mo) (f : Nat → Int64) (len : Int32), P X M → OpOk P (wr "java/lang/IllegalArgumentException" (h_X6_place X len) (X, f)) (h_X7_place M len)) ∧
  (∀ (X : Cx) (M : Mo) (f : Nat → Int64) (len : Int32) (way : Int32), P X M → OpOk P (wr "java/lang/IllegalArgumentException" (h_X6_fits X len way) (X, f)) (h_X7_fits M len way)) ∧
  (∀ (X : Cx) (M : Mo) (f : Nat → Int64) (len : Int32), P X M → OpOk P (wr "java/lang/IllegalArgumentException" (h_X6_gapIn X len) (X, f)) (h_X7_gapIn M len)) ∧
  (∀ (X : Cx) (M : Mo) (f : Nat → Int64) (len : Int32) (w : Int32), P X M → OpOk P (wr "java/lang/IllegalArgumentException" (h_X6_mover X len w) (X, f)) (h_X7_mover M len w)) ∧
  (∀ (X : Cx) (M : Mo) (f : Nat → Int64) (len : Int32) (sd : Int64), P X M → OpOk P (wr "java/lang/IllegalArgumentException" (h_X6_jam X len sd) (X, f)) (h_X7_jam M len sd)) ∧
  (∀ (X : Cx) (M : Mo) (f : Nat → Int64) (w : Int32) (sc : Int64), P X M → OpOk P (wr "java/lang/IllegalArgumentException" (h_X6_runScript X w sc) (X, f)) (h_X7_runScript M w sc)) ∧
  (∀ (X : Cx) (M : Mo) (f : Nat → Int64) (sd : Int64) (w : Int32), P X M → OpOk P (wr "java/lang/IllegalArgumentException" (h_X6_simulate X sd w) (X, f)) (h_X7_simulate M sd w)) ∧
  (∀ (X : Cx) (M : Mo) (f : Nat → Int64) (x : Int32), P X M → OpOk P (wr "java/lang/IndexOutOfBoundsException" (h_X6_save X x) (X, f)) (h_X7_save M x)) ∧
  (∀ (X : Cx) (M : Mo) (f : Nat → Int64) (x : Int32), P X M → OpOk P (wr "java/lang/IndexOutOfBoundsException" (h_X6_restore X x) (X, f)) (h_X7_restore M x))
theorem L27.start {P : Cx → Mo → Prop} (h : L27 P) : P cx1 md1 := h.1
theorem L27.o14 {P : Cx → Mo → Prop} (h : L27 P) : ∀ {X : Cx} {M : Mo}, P X M → qO (xH X) < 14 := (h.2.1) _ _
theorem L27.k14 {P : Cx → Mo → Prop} (h : L27 P) : ∀ {X : Cx} {M : Mo}, P X M → qK (xH X) ≤ 14 := (h.2.2.1) _ _
theorem L27.mz {P : Cx → Mo → Prop} (h : L27 P) : ∀ {X : Cx} {M : Mo}, P X M → mZ M = nI (zz M) := (h.2.2.2.1) _ _
theorem L27.mz120 {P : Cx → Mo → Prop} (h : L27 P) : ∀ {X : Cx} {M : Mo}, P X M → zz M ≤ 120 := (h.2.2.2.2.1) _ _
theorem L27.ri {P : Cx → Mo → Prop} (h : L27 P) : ∀ {X : Cx} {M : Mo}, P X M → RI (mN M) := (h.2.2.2.2.2.1) _ _
theorem L27.mc {P : Cx → Mo → Prop} (h : L27 P) : ∀ {X : Cx} {M : Mo}, P X M → mC M = nI (ac M) := (h.2.2.2.2.2.2.1) _ _
theorem L27.mc14 {P : Cx → Mo → Prop} (h : L27 P) : ∀ {X : Cx} {M : Mo}, P X M → ac M ≤ 14 := (h.2.2.2.2.2.2.2.1) _ _
theorem L27.o_append {P : Cx → Mo → Prop} (h : L27 P) : ∀ {X : Cx} {M : Mo} {f : Nat → Int64} (c : Int32), P X M → OpOk P (wr "java/lang/IllegalArgumentException" (h_X6_append X c) (X, f)) (h_X7_append M c) := (h.2.2.2.2.2.2.2.2.1) _ _ _
theorem L27.o_clearText {P : Cx → Mo → Prop} (h : L27 P) : ∀ {X : Cx} {M : Mo}, P X M → (h_X6_clearText X).1 = (h_X7_clearText M).1 ∧ P (h_X6_clearText X).2 (h_X7_clearText M).2 := (h.2.2.2.2.2.2.2.2.2.1) _ _
theorem L27.o_errorPosition {P : Cx → Mo → Prop} (h : L27 P) : ∀ {X : Cx} {M : Mo}, P X M → (h_X6_errorPosition X).1 = (h_X7_errorPosition M).1 ∧ P (h_X6_errorPosition X).2 (h_X7_errorPosition M).2 := (h.2.2.2.2.2.2.2.2.2.2.1) _ _
theorem L27.o_load {P : Cx → Mo → Prop} (h : L27 P) : ∀ {X : Cx} {M : Mo} {f : Nat → Int64}, P X M → OpOk P (wr "java/lang/IllegalStateException" (h_X6_load X) (X, f)) (h_X7_load M) := (h.2.2.2.2.2.2.2.2.2.2.2.1) _ _ _
theorem L27.o_about {P : Cx → Mo → Prop} (h : L27 P) : ∀ {X : Cx} {M : Mo} {f : Nat → Int64} (w : Int32), P X M → OpOk P (wr "java/lang/IllegalArgumentException" (h_X6_about X w) (X, f)) (h_X7_about M w) := (h.2.2.2.2.2.2.2.2.2.2.2.2.1) _ _ _
theorem L27.o_carOf {P : Cx → Mo → Prop} (h : L27 P) : ∀ {X : Cx} {M : Mo} {f : Nat → Int64} (c : Int32) (w : Int32), P X M → OpOk P (wr "java/lang/IndexOutOfBoundsException" (h_X6_carOf X c w) (X, f)) (h_X7_carOf M c w) := (h.2.2.2.2.2.2.2.2.2.2.2.2.2.1) _ _ _
theorem L27.o_at {P : Cx → Mo → Prop} (h : L27 P) : ∀ {X : Cx} {M : Mo} {f : Nat → Int64} (x : Int32), P X M → OpOk P (wr "java/lang/IndexOutOfBoundsException" (h_X6_at X x) (X, f)) (h_X7_at M x) := (h.2.2.2.2.2.2.2.2.2.2.2.2.2.2.1) _ _ _
theorem L27.o_gap {P : Cx → Mo → Prop} (h : L27 P) : ∀ {X : Cx} {M : Mo} {f : Nat → Int64} (k : Int32) (w : Int32), P X M → OpOk P (wr "java/lang/IndexOutOfBoundsException" (h_X6_gap X k w) (X, f)) (h_X7_gap M k w) := (h.2.2.2.2.2.2.2.2.2.2.2.2.2.2.2.1) _ _ _
theorem L27.o_setting {P : Cx → Mo → Prop} (h : L27 P) : ∀ {X : Cx} {M : Mo} {f : Nat → Int64} (w : Int32), P X M → OpOk P (wr "java/lang/IllegalArgumentException" (h_X6_setting X w) (X, f)) (h_X7_setting M w) := (h.2.2.2.2.2.2.2.2.2.2.2.2.2.2.2.2.1) _ _ _
theorem L27.o_hydrant {P : Cx → Mo → Prop} (h : L27 P) : ∀ {X : Cx} {M : Mo} {f : Nat → Int64} (x : Int32) (on : Int32), P X M → on = 0 ∨ on = 1 → OpOk P (wr "java/lang/IndexOutOfBoundsException" (h_X6_hydrant X x on) (X, f)) (h_X7_hydrant M x on) := (h.2.2.2.2.2.2.2.2.2.2.2.2.2.2.2.2.2.1) _ _ _
theorem L27.o_come {P : Cx → Mo → Prop} (h : L27 P) : ∀ {X : Cx} {M : Mo} {f : Nat → Int64} (len : Int32) (stay : Int32), P X M → OpOk P (wr "java/lang/IllegalArgumentException" (h_X6_come X len stay) (X, f)) (h_X7_come M len stay) := (h.2.2.2.2.2.2.2.2.2.2.2.2.2.2.2.2.2.2.1) _ _ _
theorem L27.o_leave {P : Cx → Mo → Prop} (h : L27 P) : ∀ {X : Cx} {M : Mo} {f : Nat → Int64} (c : Int32), P X M → OpOk P (wr "java/lang/IndexOutOfBoundsException" (h_X6_leave X c) (X, f)) (h_X7_leave M c) := (h.2.2.2.2.2.2.2.2.2.2.2.2.2.2.2.2.2.2.2.1) _ _ _
theorem L27.o_tow {P : Cx → Mo → Prop} (h : L27 P) : ∀ {X : Cx} {M : Mo} {f : Nat → Int64} (c : Int32), P X M → OpOk P (wr "java/lang/IndexOutOfBoundsException" (h_X6_tow X c) (X, f)) (h_X7_tow M c) := (h.2.2.2.2.2.2.2.2.2.2.2.2.2.2.2.2.2.2.2.2.1) _ _ _
theorem L27.o_move {P : Cx → Mo → Prop} (h : L27 P) : ∀ {X : Cx} {M : Mo} {f : Nat → Int64} (c : Int32) (x : Int32), P X M → OpOk P (wr "java/lang/IndexOutOfBoundsException" (h_X6_move X c x) (X, f)) (h_X7_move M c x) := (h.2.2.2.2.2.2.2.2.2.2.2.2.2.2.2.2.2.2.2.2.2.1) _ _ _
theorem L27.o_minutes {P : Cx → Mo → Prop} (h : L27 P) : ∀ {X : Cx} {M : Mo} {f : Nat → Int64} (mi : Int32), P X M → OpOk P (wr "java/lang/IllegalArgumentException" (h_X6_minutes X mi) (X, f)) (h_X7_minutes M mi) := (h.2.2.2.2.2.2.2.2.2.2.2.2.2.2.2.2.2.2.2.2.2.2.1) _ _ _
theorem L27.o_set {P : Cx → Mo → Prop} (h : L27 P) : ∀ {X : Cx} {M : Mo} {f : Nat → Int64} (w : Int32) (v : Int32), P X M → OpOk P (wr "java/lang/IllegalArgumentException" (h_X6_set X w v) (X, f)) (h_X7_set M w v) := (h.2.2.2.2.2.2.2.2.2.2.2.2.2.2.2.2.2.2.2.2.2.2.2.1) _ _ _
theorem L27.o_undo {P : Cx → Mo → Prop} (h : L27 P) : ∀ {X : Cx} {M : Mo} {f : Nat → Int64}, P X M → OpOk P (wr "java/lang/IllegalStateException" (h_X6_undo X) (X, f)) (h_X7_undo M) := (h.2.2.2.2.2.2.2.2.2.2.2.2.2.2.2.2.2.2.2.2.2.2.2.2.1) _ _ _
theorem L27.o_why {P : Cx → Mo → Prop} (h : L27 P) : ∀ {X : Cx} {M : Mo} {f : Nat → Int64} (len : Int32), P X M → OpOk P (wr "java/lang/IllegalArgumentException" (h_X6_why X len) (X, f)) (h_X7_why M len) := (h.2.2.2.2.2.2.2.2.2.2.2.2.2.2.2.2.2.2.2.2.2.2.2.2.2.1) _ _ _
theorem L27.o_place {P : Cx → Mo → Prop} (h : L27 P) : ∀ {X : Cx} {M : Mo} {f : Nat → Int64} (len : Int32), P X M → OpOk P (wr "java/lang/IllegalArgumentException" (h_X6_place X len) (X, f)) (h_X7_place M len) := (h.2.2.2.2.2.2.2.2.2.2.2.2.2.2.2.2.2.2.2.2.2.2.2.2.2.2.1) _ _ _
theorem L27.o_fits {P : Cx → Mo → Prop} (h : L27 P) : ∀ {X : Cx} {M : Mo} {f : Nat → Int64} (len : Int32) (way : Int32), P X M → OpOk P (wr "java/lang/IllegalArgumentException" (h_X6_fits X len way) (X, f)) (h_X7_fits M len way) := (h.2.2.2.2.2.2.2.2.2.2.2.2.2.2.2.2.2.2.2.2.2.2.2.2.2.2.2.1) _ _ _
theorem L27.o_gapIn {P : Cx → Mo → Prop} (h : L27 P) : ∀ {X : Cx} {M : Mo} {f : Nat → Int64} (len : Int32), P X M → OpOk P (wr "java/lang/IllegalArgumentException" (h_X6_gapIn X len) (X, f)) (h_X7_gapIn M len) := (h.2.2.2.2.2.2.2.2.2.2.2.2.2.2.2.2.2.2.2.2.2.2.2.2.2.2.2.2.1) _ _ _
theorem L27.o_mover {P : Cx → Mo → Prop} (h : L27 P) : ∀ {X : Cx} {M : Mo} {f : Nat → Int64} (len : Int32) (w : Int32), P X M → OpOk P (wr "java/lang/IllegalArgumentException" (h_X6_mover X len w) (X, f)) (h_X7_mover M len w) := (h.2.2.2.2.2.2.2.2.2.2.2.2.2.2.2.2.2.2.2.2.2.2.2.2.2.2.2.2.2.1) _ _ _
theorem L27.o_jam {P : Cx → Mo → Prop} (h : L27 P) : ∀ {X : Cx} {M : Mo} {f : Nat → Int64} (len : Int32) (sd : Int64), P X M → OpOk P (wr "java/lang/IllegalArgumentException" (h_X6_jam X len sd) (X, f)) (h_X7_jam M len sd) := (h.2.2.2.2.2.2.2.2.2.2.2.2.2.2.2.2.2.2.2.2.2.2.2.2.2.2.2.2.2.2.1) _ _ _
theorem L27.o_runScript {P : Cx → Mo → Prop} (h : L27 P) : ∀ {X : Cx} {M : Mo} {f : Nat → Int64} (w : Int32) (sc : Int64), P X M → OpOk P (wr "java/lang/IllegalArgumentException" (h_X6_runScript X w sc) (X, f)) (h_X7_runScript M w sc) := (h.2.2.2.2.2.2.2.2.2.2.2.2.2.2.2.2.2.2.2.2.2.2.2.2.2.2.2.2.2.2.2.1) _ _ _
theorem L27.o_simulate {P : Cx → Mo → Prop} (h : L27 P) : ∀ {X : Cx} {M : Mo} {f : Nat → Int64} (sd : Int64) (w : Int32), P X M → OpOk P (wr "java/lang/IllegalArgumentException" (h_X6_simulate X sd w) (X, f)) (h_X7_simulate M sd w) := (h.2.2.2.2.2.2.2.2.2.2.2.2.2.2.2.2.2.2.2.2.2.2.2.2.2.2.2.2.2.2.2.2.1) _ _ _
theorem L27.o_save {P : Cx → Mo → Prop} (h : L27 P) : ∀ {X : Cx} {M : Mo} {f : Nat → Int64} (x : Int32), P X M → OpOk P (wr "java/lang/IndexOutOfBoundsException" (h_X6_save X x) (X, f)) (h_X7_save M x) := (h.2.2.2.2.2.2.2.2.2.2.2.2.2.2.2.2.2.2.2.2.2.2.2.2.2.2.2.2.2.2.2.2.2.1) _ _ _
theorem L27.o_restore {P : Cx → Mo → Prop} (h : L27 P) : ∀ {X : Cx} {M : Mo} {f : Nat → Int64} (x : Int32), P X M → OpOk P (wr "java/lang/IndexOutOfBoundsException" (h_X6_restore X x) (X, f)) (h_X7_restore M x) := (h.2.2.2.2.2.2.2.2.2.2.2.2.2.2.2.2.2.2.2.2.2.2.2.2.2.2.2.2.2.2.2.2.2.2) _ _ _
def LX (G : GG) (b : Nat) (S : Wx) (M : Mo) (H : Heap) : Prop := WX G b (b + 178) S H ∧ Md G (b + 170) M H
theorem lx_w {G : GG} {b : Nat} {S S1 : Wx} {M : Mo} {H H1 : Heap} (h : LX G b S M H) (g : WX G b (b + 178) S1 H1) (hk : ∀ q : Nat, q < H.size → ¬ wfr b (b + 178) q → H1[q]? = H[q]?) : LX G b S1 M H1 :=
  ⟨g, P_o (n := 8) h.2 (md_adr G _ _) rfl hk (fun q h1 h2 z => by
    rcases z with z | z
    · have := z.2
      omega
    · omega)⟩
theorem lx_m {G : GG} {b : Nat} {S : Wx} {M M1 : Mo} {H H1 : Heap} (h : LX G b S M H) (g : Md G (b + 170) M1 H1) (hk : ∀ q : Nat, q < H.size → ¬ blk (b + 170) (b + 170 + 8) q → H1[q]? = H[q]?) : LX G b S M1 H1 :=
  ⟨⟨cb_out h.1.1 hk (fun q h1 h2 z => by
    have := z.1
    omega), P_o (n := 1) h.1.2 Adr.one rfl hk (fun q h1 h2 z => by
    have := z.2
    omega)⟩, g⟩
theorem lx_x {G : GG} {b : Nat} {X X1 : Cx} {f : Nat → Int64} {M : Mo} {H H1 : Heap} (h : LX G b (X, f) M H) (g : Cb G b X1 H1) (hk : ∀ q : Nat, q < H.size → ¬ blk b (b + 170) q → H1[q]? = H[q]?) : LX G b (X1, f) M H1 :=
  ⟨⟨g, P_o (n := 1) h.1.2 Adr.one rfl hk (fun q h1 h2 z => by
    have := z.2
    omega)⟩, P_o (n := 8) h.2 (md_adr G _ _) rfl hk (fun q h1 h2 z => by
    have := z.2
    omega)⟩
theorem lg_self (x : Int64) : lg_cmp x x = 0 := by
  unfold lg_cmp
  simp
theorem gt4 {L k : Nat} (hL : L ≤ 2048) (hk : k ≤ L) (h : ¬ Int32.ofNat L - 4 < nI k) : k + 4 ≤ L := by
  by_cases c : 4 ≤ L
  · have e : Int32.ofNat L - 4 = nI (L - 4) := by
      rw [show Int32.ofNat L - 4 = nI L - nI 4 from rfl]
      exact pk_sub c
    rw [e] at h
    have h9 : ¬ L - 4 < k := fun z => h ((nI_ltI (by omega) (by omega)).mpr z)
    omega
  · exfalso
    have h1 : L = 0 ∨ L = 1 ∨ L = 2 ∨ L = 3 := by omega
    have h2 : k = 0 ∨ k = 1 ∨ k = 2 ∨ k = 3 := by omega
    rcases h1 with rfl | rfl | rfl | rfl <;> rcases h2 with rfl | rfl | rfl | rfl <;> exact h (by decide)
section LW
variable {p : Program} {l : Launch} {e : Env} {R : Room} {s : State} {m : MethodId} {args : Array Value} {below : List Frame} {meth : Method} {c : Code} {H : Heap} {locs : List Loc} {cells slots : Nat} {Q : State → Prop}
variable {cc : ByteArray} {pc : Nat} {ls : Array Slot} {rest st0 : List Value} {a : Array Value} {A fr : Nat → Prop} {H0 : Heap} {mc ms : Nat} {G : GG} {ws : va_W}
variable {y : MethodName} {bytes : ByteArray} {maxL nL n index : Nat} {ret : Option FieldType} {wsc : List Cond} {rm : Room} {Ts : List Cond} {own C : String} {b : Addr} {As : List Value} {P : Heap → Prop} {free : Addr → Prop}
theorem xSW {Qc : Array Value → State → Outcome → State → Prop} {XC : String → State → State → Prop} {hh : List (Nat × Nat × Nat × Nat)} (S : CallFix p m c cc nL s args Ts own) (hM : vx_Met l y wsc rm (PcN G A As P) Qc XC mc ms free) (cw : vx_CSW R s args own index y bytes maxL ret hh wsc rm mc ms n)
    (hP : P H) (hO : Ok G s) (hT : ∀ U : State, U.heap = H → s.WarmedH U.vm → Thr A U) (hN : Nx s)
    (hn : As.length = n) (hsize : ls.size = nL) (hW : (rest.map fun v => v.category).sum ≤ 8) (hdg : decode cc pc = .ok (.invokestatic index, 3)) (hf : cells + mc ≤ R.cells ∧ slots + ms ≤ R.slots) :
    vx_Run p l e R s m args below meth c H locs cells slots mc ms (F0 m pc ls (As.reverse ++ rest)) rest (Qc As.toArray) XC free :=
  vx_runSX S hM cw ⟨PcN_blind, fun U hU hW => ⟨⟨rfl, by rw [hU]; exact hP, hO.warm hW, hT U hU hW⟩, hN.warm hW⟩⟩ rfl hn hsize rfl (lv_room hW) hdg hf
theorem sld_n (hexec : p.tables.exec = Jvm.exec) (hb : c.code = cc) {sc L : Nat} {xs : Nat → Int32} (hX : va_X sc L xs s s.heap) (hsc : sc < s.heap.size) (hS : va_S (frm s.heap.size) s.heap H locs) {j : Nat} (hj : j < L) (hL : L ≤ 2048) (hdg : decode cc pc = .ok (.iaload, 1))
    (kk : W p l e R s m args below meth c H locs cells slots Q (F0 m (pc + 1) ls (.int (xs j) :: rest))) : W p l e R s m args below meth c H locs cells slots Q (F0 m pc ls (.int (nI j) :: .ref sc :: rest)) := by
  refine va_sld hexec hb hX hsc (fun z => Nat.not_le.mpr hsc z) hS (vp_in_nI hj (by omega)) hdg ?_
  rw [nI_clamp (by omega)]
  exact kk
end LW
/-- what stands all through the law -/
def LC (l : Launch) (G : GG) (p : Program) (s : State) (m : MethodId) (meth : Method) (c : Code) (sc L : Nat) (xs : Nat → Int32) : Prop :=
  (p.tables.exec = Jvm.exec) ∧
  (c.code = cL_law) ∧
  (meth.sig.returnType = some .boolean) ∧
  (c.maxLocals = 7) ∧
  (s.vm.findClass RL = some m.cls) ∧
  (∀ w ∈ wsL_law, w.before #[.ref sc] s = true) ∧
  (va_X sc L xs s s.heap) ∧
  (sc < s.heap.size) ∧
  (meth.locks = false) ∧
  (Ok G s) ∧
  (Thr (frm s.heap.size) s) ∧
  (Nx s) ∧
  (va_AO RX4 s) ∧
  (l.stackTraces = false) ∧
  (L ≤ 2048)
theorem LC.hx {l : Launch} {G : GG} {p : Program} {s : State} {m : MethodId} {meth : Method} {c : Code} {sc L : Nat} {xs : Nat → Int32} (h : LC l G p s m meth c sc L xs) : p.tables.exec = Jvm.exec := h.1
theorem LC.hb {l : Launch} {G : GG} {p : Program} {s : State} {m : MethodId} {meth : Method} {c : Code} {sc L : Nat} {xs : Nat → Int32} (h : LC l G p s m meth c sc L xs) : c.code = cL_law := h.2.1
theorem LC.hr {l : Launch} {G : GG} {p : Program} {s : State} {m : MethodId} {meth : Method} {c : Code} {sc L : Nat} {xs : Nat → Int32} (h : LC l G p s m meth c sc L xs) : meth.sig.returnType = some .boolean := h.2.2.1
theorem LC.hml {l : Launch} {G : GG} {p : Program} {s : State} {m : MethodId} {meth : Method} {c : Code} {sc L : Nat} {xs : Nat → Int32} (h : LC l G p s m meth c sc L xs) : c.maxLocals = 7 := h.2.2.2.1
theorem LC.hown {l : Launch} {G : GG} {p : Program} {s : State} {m : MethodId} {meth : Method} {c : Code} {sc L : Nat} {xs : Nat → Int32} (h : LC l G p s m meth c sc L xs) : s.vm.findClass RL = some m.cls := h.2.2.2.2.1
theorem LC.hts {l : Launch} {G : GG} {p : Program} {s : State} {m : MethodId} {meth : Method} {c : Code} {sc L : Nat} {xs : Nat → Int32} (h : LC l G p s m meth c sc L xs) : ∀ w ∈ wsL_law, w.before #[.ref sc] s = true := h.2.2.2.2.2.1
theorem LC.hX {l : Launch} {G : GG} {p : Program} {s : State} {m : MethodId} {meth : Method} {c : Code} {sc L : Nat} {xs : Nat → Int32} (h : LC l G p s m meth c sc L xs) : va_X sc L xs s s.heap := h.2.2.2.2.2.2.1
theorem LC.hsc {l : Launch} {G : GG} {p : Program} {s : State} {m : MethodId} {meth : Method} {c : Code} {sc L : Nat} {xs : Nat → Int32} (h : LC l G p s m meth c sc L xs) : sc < s.heap.size := h.2.2.2.2.2.2.2.1
theorem LC.hlocks {l : Launch} {G : GG} {p : Program} {s : State} {m : MethodId} {meth : Method} {c : Code} {sc L : Nat} {xs : Nat → Int32} (h : LC l G p s m meth c sc L xs) : meth.locks = false := h.2.2.2.2.2.2.2.2.1
theorem LC.hO {l : Launch} {G : GG} {p : Program} {s : State} {m : MethodId} {meth : Method} {c : Code} {sc L : Nat} {xs : Nat → Int32} (h : LC l G p s m meth c sc L xs) : Ok G s := h.2.2.2.2.2.2.2.2.2.1
theorem LC.hTh {l : Launch} {G : GG} {p : Program} {s : State} {m : MethodId} {meth : Method} {c : Code} {sc L : Nat} {xs : Nat → Int32} (h : LC l G p s m meth c sc L xs) : Thr (frm s.heap.size) s := h.2.2.2.2.2.2.2.2.2.2.1
theorem LC.hN {l : Launch} {G : GG} {p : Program} {s : State} {m : MethodId} {meth : Method} {c : Code} {sc L : Nat} {xs : Nat → Int32} (h : LC l G p s m meth c sc L xs) : Nx s := h.2.2.2.2.2.2.2.2.2.2.2.1
theorem LC.hAO {l : Launch} {G : GG} {p : Program} {s : State} {m : MethodId} {meth : Method} {c : Code} {sc L : Nat} {xs : Nat → Int32} (h : LC l G p s m meth c sc L xs) : va_AO RX4 s := h.2.2.2.2.2.2.2.2.2.2.2.2.1
theorem LC.hst {l : Launch} {G : GG} {p : Program} {s : State} {m : MethodId} {meth : Method} {c : Code} {sc L : Nat} {xs : Nat → Int32} (h : LC l G p s m meth c sc L xs) : l.stackTraces = false := h.2.2.2.2.2.2.2.2.2.2.2.2.2.1
theorem LC.hL {l : Launch} {G : GG} {p : Program} {s : State} {m : MethodId} {meth : Method} {c : Code} {sc L : Nat} {xs : Nat → Int32} (h : LC l G p s m meth c sc L xs) : L ≤ 2048 := h.2.2.2.2.2.2.2.2.2.2.2.2.2.2
