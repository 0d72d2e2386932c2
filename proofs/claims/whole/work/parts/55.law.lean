/-! the law: two objects, a script, and what is told the same -/
/-- what an operation owes: the status, the answer, and the two again as one -/
def OpOk (P : Cx → Mo → Prop) (w : Int32 × Wx) (q : Int32 × Mo) : Prop := f_X7_thrown q.2 = w.1 ∧ P w.2.1 q.2 ∧ (w.1 = 0 → w.2.2 (0 : Int32).toNatClampNeg = q.1.toInt64)
structure L27 (P : Cx → Mo → Prop) : Prop where
  start : P cx1 md1
  o14 : ∀ {X : Cx} {M : Mo}, P X M → qO (xH X) < 14
  k14 : ∀ {X : Cx} {M : Mo}, P X M → qK (xH X) ≤ 14
  mz : ∀ {X : Cx} {M : Mo}, P X M → mZ M = nI (zz M)
  mz120 : ∀ {X : Cx} {M : Mo}, P X M → zz M ≤ 120
  ri : ∀ {X : Cx} {M : Mo}, P X M → RI (mN M)
  mc : ∀ {X : Cx} {M : Mo}, P X M → mC M = nI (ac M)
  mc14 : ∀ {X : Cx} {M : Mo}, P X M → ac M ≤ 14
  o_append : ∀ {X : Cx} {M : Mo} {f : Nat → Int64} (c : Int32), P X M → OpOk P (wr "java/lang/IllegalArgumentException" (h_X6_append X c) (X, f)) (h_X7_append M c)
  o_clearText : ∀ {X : Cx} {M : Mo}, P X M → (h_X6_clearText X).1 = (h_X7_clearText M).1 ∧ P (h_X6_clearText X).2 (h_X7_clearText M).2
  o_errorPosition : ∀ {X : Cx} {M : Mo}, P X M → (h_X6_errorPosition X).1 = (h_X7_errorPosition M).1 ∧ P (h_X6_errorPosition X).2 (h_X7_errorPosition M).2
  o_load : ∀ {X : Cx} {M : Mo} {f : Nat → Int64}, P X M → OpOk P (wr "java/lang/IllegalStateException" (h_X6_load X) (X, f)) (h_X7_load M)
  o_about : ∀ {X : Cx} {M : Mo} {f : Nat → Int64} (w : Int32), P X M → OpOk P (wr "java/lang/IllegalArgumentException" (h_X6_about X w) (X, f)) (h_X7_about M w)
  o_carOf : ∀ {X : Cx} {M : Mo} {f : Nat → Int64} (c : Int32) (w : Int32), P X M → OpOk P (wr "java/lang/IndexOutOfBoundsException" (h_X6_carOf X c w) (X, f)) (h_X7_carOf M c w)
  o_at : ∀ {X : Cx} {M : Mo} {f : Nat → Int64} (x : Int32), P X M → OpOk P (wr "java/lang/IndexOutOfBoundsException" (h_X6_at X x) (X, f)) (h_X7_at M x)
  o_gap : ∀ {X : Cx} {M : Mo} {f : Nat → Int64} (k : Int32) (w : Int32), P X M → OpOk P (wr "java/lang/IndexOutOfBoundsException" (h_X6_gap X k w) (X, f)) (h_X7_gap M k w)
  o_setting : ∀ {X : Cx} {M : Mo} {f : Nat → Int64} (w : Int32), P X M → OpOk P (wr "java/lang/IllegalArgumentException" (h_X6_setting X w) (X, f)) (h_X7_setting M w)
  o_hydrant : ∀ {X : Cx} {M : Mo} {f : Nat → Int64} (x : Int32) (on : Int32), P X M → on = 0 ∨ on = 1 → OpOk P (wr "java/lang/IndexOutOfBoundsException" (h_X6_hydrant X x on) (X, f)) (h_X7_hydrant M x on)
  o_come : ∀ {X : Cx} {M : Mo} {f : Nat → Int64} (len : Int32) (stay : Int32), P X M → OpOk P (wr "java/lang/IllegalArgumentException" (h_X6_come X len stay) (X, f)) (h_X7_come M len stay)
  o_leave : ∀ {X : Cx} {M : Mo} {f : Nat → Int64} (c : Int32), P X M → OpOk P (wr "java/lang/IndexOutOfBoundsException" (h_X6_leave X c) (X, f)) (h_X7_leave M c)
  o_tow : ∀ {X : Cx} {M : Mo} {f : Nat → Int64} (c : Int32), P X M → OpOk P (wr "java/lang/IndexOutOfBoundsException" (h_X6_tow X c) (X, f)) (h_X7_tow M c)
  o_move : ∀ {X : Cx} {M : Mo} {f : Nat → Int64} (c : Int32) (x : Int32), P X M → OpOk P (wr "java/lang/IndexOutOfBoundsException" (h_X6_move X c x) (X, f)) (h_X7_move M c x)
  o_minutes : ∀ {X : Cx} {M : Mo} {f : Nat → Int64} (mi : Int32), P X M → OpOk P (wr "java/lang/IllegalArgumentException" (h_X6_minutes X mi) (X, f)) (h_X7_minutes M mi)
  o_set : ∀ {X : Cx} {M : Mo} {f : Nat → Int64} (w : Int32) (v : Int32), P X M → OpOk P (wr "java/lang/IllegalArgumentException" (h_X6_set X w v) (X, f)) (h_X7_set M w v)
  o_undo : ∀ {X : Cx} {M : Mo} {f : Nat → Int64}, P X M → OpOk P (wr "java/lang/IllegalStateException" (h_X6_undo X) (X, f)) (h_X7_undo M)
  o_why : ∀ {X : Cx} {M : Mo} {f : Nat → Int64} (len : Int32), P X M → OpOk P (wr "java/lang/IllegalArgumentException" (h_X6_why X len) (X, f)) (h_X7_why M len)
  o_place : ∀ {X : Cx} {M : Mo} {f : Nat → Int64} (len : Int32), P X M → OpOk P (wr "java/lang/IllegalArgumentException" (h_X6_place X len) (X, f)) (h_X7_place M len)
  o_fits : ∀ {X : Cx} {M : Mo} {f : Nat → Int64} (len : Int32) (way : Int32), P X M → OpOk P (wr "java/lang/IllegalArgumentException" (h_X6_fits X len way) (X, f)) (h_X7_fits M len way)
  o_gapIn : ∀ {X : Cx} {M : Mo} {f : Nat → Int64} (len : Int32), P X M → OpOk P (wr "java/lang/IllegalArgumentException" (h_X6_gapIn X len) (X, f)) (h_X7_gapIn M len)
  o_mover : ∀ {X : Cx} {M : Mo} {f : Nat → Int64} (len : Int32) (w : Int32), P X M → OpOk P (wr "java/lang/IllegalArgumentException" (h_X6_mover X len w) (X, f)) (h_X7_mover M len w)
  o_jam : ∀ {X : Cx} {M : Mo} {f : Nat → Int64} (len : Int32) (sd : Int64), P X M → OpOk P (wr "java/lang/IllegalArgumentException" (h_X6_jam X len sd) (X, f)) (h_X7_jam M len sd)
  o_runScript : ∀ {X : Cx} {M : Mo} {f : Nat → Int64} (w : Int32) (sc : Int64), P X M → OpOk P (wr "java/lang/IllegalArgumentException" (h_X6_runScript X w sc) (X, f)) (h_X7_runScript M w sc)
  o_simulate : ∀ {X : Cx} {M : Mo} {f : Nat → Int64} (sd : Int64) (w : Int32), P X M → OpOk P (wr "java/lang/IllegalArgumentException" (h_X6_simulate X sd w) (X, f)) (h_X7_simulate M sd w)
  o_save : ∀ {X : Cx} {M : Mo} {f : Nat → Int64} (x : Int32), P X M → OpOk P (wr "java/lang/IndexOutOfBoundsException" (h_X6_save X x) (X, f)) (h_X7_save M x)
  o_restore : ∀ {X : Cx} {M : Mo} {f : Nat → Int64} (x : Int32), P X M → OpOk P (wr "java/lang/IndexOutOfBoundsException" (h_X6_restore X x) (X, f)) (h_X7_restore M x)
def LX (G : GG) (b : Nat) (S : Wx) (M : Mo) (H : Heap) : Prop := WX G b (b + 178) S H ∧ Md G (b + 170) M H
theorem lx_w {G : GG} {b : Nat} {S S1 : Wx} {M : Mo} {H H1 : Heap} (h : LX G b S M H) (g : WX G b (b + 178) S1 H1) (hk : ∀ q : Nat, q < H.size → ¬ wfr b (b + 178) q → H1[q]? = H[q]?) : LX G b S1 M H1 :=
  ⟨g, P_o (n := 8) h.2 (md_adr G _ _) rfl hk (fun q h1 h2 z => by
    rcases z with z | z
    · have := z.2
      omega
    · omega)⟩
theorem lx_m {G : GG} {b : Nat} {S : Wx} {M M1 : Mo} {H H1 : Heap} (h : LX G b S M H) (g : Md G (b + 170) M1 H1) (hk : ∀ q : Nat, q < H.size → ¬ blk (b + 170) (b + 170 + 8) q → H1[q]? = H[q]?) : LX G b S M1 H1 :=
  ⟨⟨cb_out h.1.1 hk (fun q h1 h2 z => by
    have := z.1
    omega), P_o (n := 1) h.1.2 Adr.one rfl hk (fun q h1 h2 z => by
    have := z.2
    omega)⟩, g⟩
theorem lx_x {G : GG} {b : Nat} {X X1 : Cx} {f : Nat → Int64} {M : Mo} {H H1 : Heap} (h : LX G b (X, f) M H) (g : Cb G b X1 H1) (hk : ∀ q : Nat, q < H.size → ¬ blk b (b + 170) q → H1[q]? = H[q]?) : LX G b (X1, f) M H1 :=
  ⟨⟨g, P_o (n := 1) h.1.2 Adr.one rfl hk (fun q h1 h2 z => by
    have := z.2
    omega)⟩, P_o (n := 8) h.2 (md_adr G _ _) rfl hk (fun q h1 h2 z => by
    have := z.2
    omega)⟩
theorem lg_self (x : Int64) : lg_cmp x x = 0 := by
  unfold lg_cmp
  simp
theorem gt4 {L k : Nat} (hL : L ≤ 2048) (hk : k ≤ L) (h : ¬ Int32.ofNat L - 4 < nI k) : k + 4 ≤ L := by
  by_cases c : 4 ≤ L
  · have e : Int32.ofNat L - 4 = nI (L - 4) := by
      rw [show Int32.ofNat L - 4 = nI L - nI 4 from rfl]
      exact pk_sub c
    rw [e] at h
    have h9 : ¬ L - 4 < k := fun z => h ((nI_ltI (by omega) (by omega)).mpr z)
    omega
  · exfalso
    have h1 : L = 0 ∨ L = 1 ∨ L = 2 ∨ L = 3 := by omega
    have h2 : k = 0 ∨ k = 1 ∨ k = 2 ∨ k = 3 := by omega
    rcases h1 with rfl | rfl | rfl | rfl <;> rcases h2 with rfl | rfl | rfl | rfl <;> exact h (by decide)
section LW
variable {p : Program} {l : Launch} {e : Env} {R : Room} {s : State} {m : MethodId} {args : Array Value} {below : List Frame} {meth : Method} {c : Code} {H : Heap} {locs : List Loc} {cells slots : Nat} {Q : State → Prop}
variable {cc : ByteArray} {pc : Nat} {ls : Array Slot} {rest st0 : List Value} {a : Array Value} {A fr : Nat → Prop} {H0 : Heap} {mc ms : Nat} {G : GG} {ws : va_W}
variable {y : MethodName} {bytes : ByteArray} {maxL nL n index : Nat} {ret : Option FieldType} {wsc : List Cond} {rm : Room} {Ts : List Cond} {own C : String} {b : Addr} {As : List Value} {P : Heap → Prop} {free : Addr → Prop}
theorem xSW {Qc : Array Value → State → Outcome → State → Prop} {XC : String → State → State → Prop} {hh : List (Nat × Nat × Nat × Nat)} (S : CallFix p m c cc nL s args Ts own) (hM : vx_Met l y wsc rm (PcN G A As P) Qc XC mc ms free) (cw : vx_CSW R s args own index y bytes maxL ret hh wsc rm mc ms n)
    (hP : P H) (hO : Ok G s) (hT : ∀ U : State, U.heap = H → s.WarmedH U.vm → Thr A U) (hN : Nx s)
    (hn : As.length = n) (hsize : ls.size = nL) (hW : (rest.map fun v => v.category).sum ≤ 8) (hdg : decode cc pc = .ok (.invokestatic index, 3)) (hf : cells + mc ≤ R.cells ∧ slots + ms ≤ R.slots) :
    vx_Run p l e R s m args below meth c H locs cells slots mc ms (F0 m pc ls (As.reverse ++ rest)) rest (Qc As.toArray) XC free :=
  vx_runSX S hM cw ⟨PcN_blind, fun U hU hW => ⟨⟨rfl, by rw [hU]; exact hP, hO.warm hW, hT U hU hW⟩, hN.warm hW⟩⟩ rfl hn hsize rfl (lv_room hW) hdg hf
theorem sld_n (hexec : p.tables.exec = Jvm.exec) (hb : c.code = cc) {sc L : Nat} {xs : Nat → Int32} (hX : va_X sc L xs s s.heap) (hsc : sc < s.heap.size) (hS : va_S (frm s.heap.size) s.heap H locs) {j : Nat} (hj : j < L) (hL : L ≤ 2048) (hdg : decode cc pc = .ok (.iaload, 1))
    (kk : W p l e R s m args below meth c H locs cells slots Q (F0 m (pc + 1) ls (.int (xs j) :: rest))) : W p l e R s m args below meth c H locs cells slots Q (F0 m pc ls (.int (nI j) :: .ref sc :: rest)) := by
  refine va_sld hexec hb hX hsc (fun z => Nat.not_le.mpr hsc z) hS (vp_in_nI hj (by omega)) hdg ?_
  rw [nI_clamp (by omega)]
  exact kk
end LW
/-- what stands all through the law -/
structure LC (l : Launch) (G : GG) (p : Program) (s : State) (m : MethodId) (meth : Method) (c : Code) (sc L : Nat) (xs : Nat → Int32) : Prop where
  hx : p.tables.exec = Jvm.exec
  hb : c.code = cL_law
  hr : meth.sig.returnType = some .boolean
  hml : c.maxLocals = 7
  hown : s.vm.findClass RL = some m.cls
  hts : ∀ w ∈ wsL_law, w.before #[.ref sc] s = true
  hX : va_X sc L xs s s.heap
  hsc : sc < s.heap.size
  hlocks : meth.locks = false
  hO : Ok G s
  hTh : Thr (frm s.heap.size) s
  hN : Nx s
  hAO : va_AO RX4 s
  hst : l.stackTraces = false
  hL : L ≤ 2048
