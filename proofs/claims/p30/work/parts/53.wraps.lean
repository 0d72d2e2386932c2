/-! the law's wrappers: they catch, and answer a number that says which -/
/-- the number of an exception -/
def cd (E : String) : Int32 := if E = "java/lang/IndexOutOfBoundsException" then -9999001 else if E = "java/lang/IllegalArgumentException" then -9999002 else -9999003
/-- what a wrapper answers, and the object behind it -/
def pv (h : String ⊕ (Int32 × Cx)) (X : Cx) : Int32 × Cx := match h with
  | .inl E => (cd E, X)
  | .inr q => q
def ncL : List (String × String) := [("java/lang/IllegalStateException", "java/lang/IllegalArgumentException"), ("java/lang/IllegalArgumentException", "java/lang/IndexOutOfBoundsException"), ("java/lang/IllegalStateException", "java/lang/IndexOutOfBoundsException")]
def Nx (U : State) : Prop := ∀ q ∈ ncL, va_Nc q.1 q.2 U
theorem Nx.calling {U : State} {g : JFrame} {mk : MethodId} {a : Array Value} (h : Nx U) : Nx (U.calling g mk a) := fun q hq => va_Nc.moved (u := U) (U := U.calling g mk a) (Vm.Alike.refl U.vm) (h q hq)
theorem Nx.warm {s U : State} (hW : s.WarmedH U.vm) (h : Nx s) : Nx U := fun q hq => va_Nc.moved hW.alike (h q hq)
def PcN (G : GG) (A : Nat → Prop) (av : List Value) (P : Heap → Prop) : Array Value → State → Prop := fun v U => PcT G A av P v U ∧ Nx U
theorem PcN_blind {G : GG} {A : Nat → Prop} {av : List Value} {P : Heap → Prop} : FrameBlind (PcN G A av P) := fun _ _ _ _ h => ⟨⟨h.1.1, h.1.2.1, h.1.2.2.1.calling, h.1.2.2.2.calling⟩, h.2.calling⟩
section XW
variable {p : Program} {l : Launch} {e : Env} {R : Room} {s : State} {m : MethodId} {args : Array Value} {below : List Frame} {meth : Method} {c : Code} {H : Heap} {locs : List Loc} {cells slots : Nat} {Q : State → Prop}
variable {cc : ByteArray} {pc : Nat} {ls : Array Slot} {rest st0 : List Value} {a : Array Value} {A fr : Nat → Prop} {H0 : Heap} {mc ms : Nat} {G : GG} {ws : va_W}
variable {y : MethodName} {bytes : ByteArray} {maxL nL n index : Nat} {ret : Option FieldType} {wsc : List Cond} {rm : Room} {Ts : List Cond} {own C : String} {b : Addr} {As : List Value} {P : Heap → Prop} {free : Addr → Prop}
def XNo : String → State → State → Prop := fun _ _ _ => False
theorem metW {Qc : Array Value → State → Outcome → State → Prop} {XC : String → State → State → Prop} {av : List Value} {ws' : List Cond} {hh : List (Nat × Nat × Nat × Nat)} (hy : plainName y.cls = true) (hw : wsc = Cond.codeWith y cc maxL ret hh :: ws')
    (body : ∀ (p : Program) (e : Env) (s : State) (m : MethodId) (below : List Frame) (meth : Method) (c : Code), p.tables.exec = Jvm.exec → c.code = cc → meth.sig.returnType = ret → c.maxLocals = maxL → s.vm.findClass y.cls = some m.cls →
      (∀ w ∈ wsc, w.before av.toArray s = true) → meth.locks = false → c.exceptionTable.toList = tableOf hh → P s.heap → Ok G s → Thr A s → Nx s →
      W p l e (headSpec wsc rm).room s m av.toArray below meth c s.heap [] 0 0 (vx_MQ below Qc XC av.toArray s mc ms free) (entryFrame m av.toArray maxL)) : vx_Met l y wsc rm (PcN G A av P) Qc XC mc ms free := by
  refine vx_ofWH (cc := cc) (maxL := maxL) (ret := ret) (hh := hh) hy hw ?_
  intro p e s m args below meth c s₁ B hml hv
  obtain ⟨⟨rfl, hP, hO, hT⟩, hN⟩ := hv
  have hts : ∀ w ∈ wsc, w.before av.toArray s = true := atoms_spec (ws := wsc) B.pre
  exact body p e s m below meth c B.exec B.bytes B.returns hml (findClass_of_methodNamed B.named) hts B.notSynchronized (vx_table (x := y) B (hts _ (by rw [hw]; exact List.mem_cons_self))) hP hO hT hN
/-- a method of the law that throws nothing -/
theorem metN {Qc : Array Value → State → Outcome → State → Prop} {av : List Value} {ws' : List Cond} (hy : plainName y.cls = true) (hw : wsc = Cond.code y cc maxL ret :: ws')
    (body : ∀ (p : Program) (e : Env) (s : State) (m : MethodId) (below : List Frame) (meth : Method) (c : Code), p.tables.exec = Jvm.exec → c.code = cc → meth.sig.returnType = ret → c.maxLocals = maxL → s.vm.findClass y.cls = some m.cls →
      (∀ w ∈ wsc, w.before av.toArray s = true) → meth.locks = false → P s.heap → Ok G s → Thr A s → Nx s →
      W p l e (headSpec wsc rm).room s m av.toArray below meth c s.heap [] 0 0 (MQ below Qc av.toArray s mc ms free) (entryFrame m av.toArray maxL)) : Met l y wsc rm (PcN G A av P) Qc mc ms free := by
  refine Met.ofW (cc := cc) (maxL := maxL) (ret := ret) hy hw ?_
  intro p e s m args below meth c s₁ B hml hv
  obtain ⟨⟨rfl, hP, hO, hT⟩, hN⟩ := hv
  exact body p e s m below meth c B.exec B.bytes B.returns hml (findClass_of_methodNamed B.named) (atoms_spec (ws := wsc) B.pre) B.notSynchronized hP hO hT hN
theorem cl_xi {σ : Type} {h : String ⊕ (Int32 × σ)} {Pw : σ → Heap → Prop} {fr : Nat → Prop} {Qe : State → Prop} (hr : vx_Run p l e R s m args below meth c H locs cells slots mc ms (F0 m pc ls st0) rest (QX h Pw fr a) (XX h) free)
    (kk : ∀ (r : Int32) (x : σ) (H1 : Heap) (L : List Loc), h = .inr (r, x) → Pw x H1 → H.size ≤ H1.size → (∀ q : Nat, q < H.size → ¬ fr q → H1[q]? = H[q]?) → (∀ z ∈ L, free z.base) → W p l e R s m args below meth c H1 (locs ++ L) (cells + mc) (slots + ms) Qe (F0 m (pc + 3) ls (.int r :: rest)))
    (kx : ∀ (E : String) (ce : Cell) (q9 : Addr) (H1 : Heap) (L : List Loc), h = .inl E → H.size ≤ H1.size → (∀ q : Nat, q < H.size → H1[q]? = H[q]?) → (∀ z ∈ L, free z.base) → H1[q9]? = some ce → ce.vm = .none → s.vm.findClass E = some ce.cls → vx_W p l e R s m args below meth c H1 (locs ++ L) (cells + mc) (slots + ms) Qe (F0 m pc ls rest) q9) :
    W p l e R s m args below meth c H locs cells slots Qe (F0 m pc ls st0) := by
  intro T hT X
  rcases hr T hT X with ⟨v, st₀, t, T', L, h0, X', hL, e1, e2, ⟨r, x, hE, hoc, hPx, hF⟩, st⟩ | ⟨q, st₀, t, T', L, E, ce, h0, X', hL, e1, e2, ⟨hE, hF⟩, hce, hcv, hcl, st⟩
  · cases hoc
    obtain ⟨t2, a1, b1⟩ := kk r x T'.heap L hE (by rw [e1]; exact hPx) (by rw [e1, ← h0]; exact hF.1) (by rw [e1, ← h0]; exact hF.2) hL T' rfl X'
    exact ⟨t2, st t2 a1, b1⟩
  · obtain ⟨t2, a1, b1⟩ := kx E ce q T'.heap L hE (by rw [e1, ← h0]; exact hF.1) (by rw [e1, ← h0]; exact fun z hz => hF.2 z hz (fun n => n)) hL (by rw [e1]; exact hce) hcv hcl T' rfl X'
    exact ⟨t2, st.trans a1, b1⟩
/-- a wrapper at its caller: an answer, and the world -/
theorem cl_mx {r : Int32} {Pw : Heap → Prop} {fr : Nat → Prop} {Qe : State → Prop} (hr : vx_Run p l e R s m args below meth c H locs cells slots mc ms (F0 m pc ls st0) rest (QM (some (.int r)) Pw fr a) XNo fr) (hS : va_S A H0 H locs) (hA : ∀ q, fr q → A q)
    (kk : ∀ (H1 : Heap) (locs1 : List Loc), Pw H1 → H.size ≤ H1.size → (∀ q : Nat, q < H.size → ¬ fr q → H1[q]? = H[q]?) → va_S A H0 H1 locs1 → W p l e R s m args below meth c H1 locs1 (cells + mc) (slots + ms) Qe (F0 m (pc + 3) ls (.int r :: rest))) :
    W p l e R s m args below meth c H locs cells slots Qe (F0 m pc ls st0) := by
  intro T hT X
  rcases hr T hT X with ⟨v, st₀, t, T', L, h0, X', hL, e1, e2, ⟨hoc, hPx, hF⟩, st⟩ | ⟨q, st₀, t, T', L, E, ce, h0, X', hL, e1, e2, hF, hce, hcv, hcl, st⟩
  · cases hoc
    obtain ⟨t2, a1, b1⟩ := kk T'.heap (locs ++ L) (by rw [e1]; exact hPx) (by rw [e1, ← h0]; exact hF.1) (by rw [e1, ← h0]; exact hF.2) (S_app hS (by rw [e1, ← h0]; exact hF.1) (by rw [e1, ← h0]; exact hF.2) hL hA) T' rfl X'
    exact ⟨t2, st t2 a1, b1⟩
  · exact hF.elim
/-- a method of the law at its caller -/
theorem cl_ci {r : Int32} (hr : va_Run p l e R s m args below meth c H locs cells slots mc ms (F0 m pc ls st0) rest (QM (some (.int r)) P fr a) fr) (hS : va_S A H0 H locs) (hA : ∀ q, fr q → A q)
    (kk : ∀ (H1 : Heap) (locs1 : List Loc), P H1 → H.size ≤ H1.size → (∀ q : Nat, q < H.size → ¬ fr q → H1[q]? = H[q]?) → va_S A H0 H1 locs1 → W p l e R s m args below meth c H1 locs1 (cells + mc) (slots + ms) Q (F0 m (pc + 3) ls (.int r :: rest))) : W p l e R s m args below meth c H locs cells slots Q (F0 m pc ls st0) := by
  intro T hT X
  obtain ⟨v', st₀, t, T', L, h0, X', hL, e1, -, ⟨hv, hp, hz, hk⟩, st⟩ := hr T hT X
  cases hv
  rw [h0] at hz hk
  obtain ⟨t2, a1, b1⟩ := kk T'.heap (locs ++ L) (by rw [e1]; exact hp) (by rw [e1]; exact hz) (fun q h g => by rw [e1]; exact hk q h g) (S_app hS (by rw [e1]; exact hz) (fun q h g => by rw [e1]; exact hk q h g) hL hA) T' rfl X'
  exact ⟨t2, st t2 a1, b1⟩
theorem xSW {Qc : Array Value → State → Outcome → State → Prop} {XC : String → State → State → Prop} {hh : List (Nat × Nat × Nat × Nat)} (S : CallFix p m c cc nL s args Ts own) (hM : vx_Met l y wsc rm (PcN G A As P) Qc XC mc ms free) (cw : vx_CSW R s args own index y bytes maxL ret hh wsc rm mc ms n)
    (hP : P H) (hO : Ok G s) (hT : ∀ U : State, U.heap = H → s.WarmedH U.vm → Thr A U) (hN : Nx s)
    (hn : As.length = n) (hsize : ls.size = nL) (hW : (rest.map fun v => v.category).sum ≤ 8) (hdg : decode cc pc = .ok (.invokestatic index, 3)) (hf : cells + mc ≤ R.cells ∧ slots + ms ≤ R.slots) :
    vx_Run p l e R s m args below meth c H locs cells slots mc ms (F0 m pc ls (As.reverse ++ rest)) rest (Qc As.toArray) XC free :=
  vx_runSX S hM cw ⟨PcN_blind, fun U hU hW => ⟨⟨rfl, by rw [hU]; exact hP, hO.warm hW, hT U hU hW⟩, hN.warm hW⟩⟩ rfl hn hsize rfl (lv_room hW) hdg hf
theorem rSP {Qc : Array Value → State → Outcome → State → Prop} (S : CallFix p m c cc nL s args Ts own) (hM : Met l y wsc rm (PcN G A As P) Qc mc ms free) (cw : CallB R s args own index y bytes maxL ret wsc rm mc ms n ∧ (Cond.static y).before args s = true)
    (hP : P H) (hO : Ok G s) (hT : ∀ U : State, U.heap = H → s.WarmedH U.vm → Thr A U) (hN : Nx s)
    (hn : As.length = n) (hsize : ls.size = nL) (hW : (rest.map fun v => v.category).sum ≤ 8) (hdg : decode cc pc = .ok (.invokestatic index, 3)) (hf : cells + mc ≤ R.cells ∧ slots + ms ≤ R.slots) :
    va_Run p l e R s m args below meth c H locs cells slots mc ms (F0 m pc ls (As.reverse ++ rest)) rest (Qc As.toArray) free :=
  va_runS S hM cw ⟨PcN_blind, fun U hU hW => ⟨⟨rfl, by rw [hU]; exact hP, hO.warm hW, hT U hU hW⟩, hN.warm hW⟩⟩ rfl hn hsize rfl (lv_room hW) hdg hf
end XW

theorem ni_lp_xLoad (n k : Nat) (o s : Int32) (X : Cx) {E : String} : ¬ lp_xLoad n k o s X = .inl E := by
  induction n generalizing k o s X with
  | zero => rw [lp_xLoad]; exact fun h => by cases h
  | succ n ih =>
    rw [lp_xLoad]
    by_cases q1 : 120 ≤ (nI k)
    · rw [if_pos q1]; exact fun h => by cases h
    · rw [if_neg q1]
      by_cases q2 : (f_X5_hasLetter (xT X) s) = 0
      · rw [if_pos q2]; exact fun h => by cases h
      · rw [if_neg q2]
        by_cases q3 : ((h_X5_doCommand (xT X) (xN X) s).1) = (-1)
        · rw [if_pos q3]; exact ih _ _ _ _
        · rw [if_neg q3]; exact ih _ _ _ _
theorem ni_lp_xGapIn (len : Int32) (n k : Nat) (X : Cx) {E : String} : ¬ lp_xGapIn len n k X = .inl E := by
  induction n generalizing k X with
  | zero => rw [lp_xGapIn]; exact fun h => by cases h
  | succ n ih =>
    rw [lp_xGapIn]
    by_cases q1 : 100 < (nI k)
    · rw [if_pos q1]; exact fun h => by cases h
    · rw [if_neg q1]
      by_cases q2 : (f_X4_reasonAgainst (xR X) len) = 0
      · rw [if_pos q2]; exact fun h => by cases h
      · rw [if_neg q2]; exact ih _ _
theorem ni_lp_xSim (w : Int32) (n k : Nat) (x : Int64) (X : Cx) {E : String} : ¬ lp_xSim w n k x X = .inl E := by
  induction n generalizing k x X with
  | zero => rw [lp_xSim]; exact fun h => by cases h
  | succ n ih =>
    rw [lp_xSim]
    by_cases q1 : w ≤ (nI k)
    · rw [if_pos q1]; exact fun h => by cases h
    · rw [if_neg q1]; exact ih _ _ _
theorem ni_lp_xScript (w : Int32) (sc : Int64) (n : Nat) (al : Int64) (k : Nat) (X : Cx) {E : String} : ¬ lp_xScript w sc n al k X = .inl E := by
  induction n generalizing al k X with
  | zero => rw [lp_xScript]; exact fun h => by cases h
  | succ n ih =>
    rw [lp_xScript]
    by_cases q1 : w ≤ (nI k)
    · rw [if_pos q1]; exact fun h => by cases h
    · rw [if_neg q1]
      by_cases q2 : (lg_cmp al 0) ≤ 0
      · rw [if_pos q2]; exact fun h => by cases h
      · rw [if_neg q2]
        by_cases q3 : ((h_X2_succeeds (xR X) (((sc / al) - (sc / al) / 1000000 * 1000000).toInt32)).1) = 0
        · rw [if_pos q3]; exact fun h => by cases h
        · rw [if_neg q3]; exact ih _ _ _
theorem unit_E (X : Cx) (w : Int32) (sc : Int64) (n : Nat) (un : Int64) (k : Nat) {E : String} (h : lp_xUnit X w sc n un k = .inl E) : E = "java/lang/IllegalArgumentException" := by
  induction n generalizing un k with
  | zero => rw [lp_xUnit] at h; cases h
  | succ n ih =>
    rw [lp_xUnit] at h
    by_cases q1 : w ≤ (nI k)
    · rw [if_pos q1] at h
      by_cases q2 : (lg_cmp sc 0) < 0
      · rw [if_pos q2] at h; cases h; rfl
      · rw [if_neg q2] at h
        by_cases q3 : (lg_cmp (sc / 1000000) un) < 0
        · rw [if_pos q3] at h; exact absurd h (ni_lp_xScript _ _ _ _ _ _)
        · rw [if_neg q3] at h; cases h; rfl
    · rw [if_neg q1] at h
      exact ih _ _ h

theorem th_hydrant (X : Cx) (x : Int32) (on : Int32) (E : String) (h : h_X6_hydrant X x on = .inl E) : E = "java/lang/IndexOutOfBoundsException" ∨ E = "java/lang/IllegalStateException" := by
  rw [h_X6_hydrant] at h
  by_cases q1 : (f_X6_requireCell x) = 0
  · rw [if_pos q1] at h
    cases h
    exact .inl rfl
  · rw [if_neg q1] at h
    by_cases q2 : (f_X4_allowsHydrant (xN X) x on) = 0
    · rw [if_pos q2] at h
      cases h
      exact .inr rfl
    · rw [if_neg q2] at h
      cases h

set_option maxHeartbeats 4000000 in
set_option maxRecDepth 100000 in
theorem c_L_hydrants (l : Launch) (G : GG) (b : Nat) (X : Cx) (x : Int32) (on : Int32) (hst : l.stackTraces = false) (hO14 : qO (xH X) < 14) (hK14 : qK (xH X) ≤ 14) : vx_Met l yL_hydrants wsL_hydrants ({ frames := 10, cells := 1, slots := 6, locals := 162 }) (PcN G (blk b (b + 170)) [.ref b, .int x, .int on] (Cb G b X)) (QM (some (.int (pv (h_X6_hydrant X x on) X).1)) (Cb G b (pv (h_X6_hydrant X x on) X).2) (blk b (b + 170))) XNo 1 6 (blk b (b + 170)) := by
  have hth : ∀ E, h_X6_hydrant X x on = .inl E → E = "java/lang/IndexOutOfBoundsException" ∨ E = "java/lang/IllegalStateException" := fun E => th_hydrant X x on E
  refine metW (cc := cL_hydrants) (maxL := 4) (ret := (some .int)) (hh := [(0, 6, 7, 13), (0, 6, 11, 16)]) (by decide) rfl ?_
  intro p e s m below meth cd hx hb hr hml hown hts hlocks htab hP hO hTh hN
  have hS : va_S (blk b (b + 170)) s.heap s.heap [] := va_S.rf
  have hl := lv_entry ([.ref b, .int x, .int on]) (n := 4) (Nat.le_of_ble_eq_true rfl)
  rw [lg_entry_eq]
  generalize (lg_sl ([.ref b, .int x, .int on]) ++ List.replicate (4 - (lg_sl ([.ref b, .int x, .int on])).length) Slot.unset).toArray = ls at hl ⊢
  have hl : lv_has ls 4 [(0, .ref b), (1, .int x), (2, .int on)] := hl
  refine lv_aload_n hx hb dL_hydrants_0 rfl (lv_at hl 0 rfl) ?_
  refine lv_iload_n hx hb dL_hydrants_1 rfl (lv_at hl 1 rfl) ?_
  refine lv_iload_n hx hb dL_hydrants_2 rfl (lv_at hl 2 rfl) ?_
  refine cl_xi (xW (A := (blk b (b + 170))) (As := [.int x, .int on]) (rest := []) ⟨hx, hb, hml, hown, hts⟩ (c_X6_hydrant l G b X x on hst hO14 hK14) (cwV 2 hts gL_hydrants_X6_hydrant rfl rfl rfl (by decide +kernel) ⟨Nat.le_of_ble_eq_true rfl, Nat.le_of_ble_eq_true rfl⟩) (cb_recv hO hP) hP hO (fun U hU hW => hTh.warm hW hU) rfl hl.1 (Nat.le_of_ble_eq_true rfl) dL_hydrants_3 ⟨Nat.le_of_ble_eq_true rfl, Nat.le_of_ble_eq_true rfl⟩) (fun r X9 H1 L hE hPx hs hk hL => ?_) (fun E ce q9 H1 L hE hs hk hL hce hcv hcl => ?_)
  · have hS := S_app hS hs hk hL (fun q h => h)
    have hw0 : pv (h_X6_hydrant X x on) X = (r, X9) := by rw [hE]; rfl
    exact vx_ret (W.iret hx hb hr (fun t ht hW => ⟨by rw [hw0], by rw [hw0, ht]; exact hPx, hS.F ht⟩) hS.2.2 dL_hydrants_6)
  · have hS := S_app (fr := (blk b (b + 170))) hS hs (fun q h _ => hk q h) (fun z hz => (hL z hz)) (fun q h => h)
    have hPb : Cb G b X H1 := cb_out (fr := noA) hP (fun q h _ => hk q h) (fun _ _ _ z => z)
    rcases hth E hE with rfl | rfl
    · refine vx_catch (name := "java/lang/IndexOutOfBoundsException") (E := "java/lang/IndexOutOfBoundsException") hown [] ⟨0, 6, 7, 13⟩ [⟨0, 6, 11, 16⟩] htab (fun z hz => absurd hz List.not_mem_nil) (by decide) (by decide) (hts (.classLink RL 13 "java/lang/IndexOutOfBoundsException") (by decide +kernel)) (hTh.w _ (List.mem_of_getElem? (i := 5) rfl)) hce hcv hcl ?_
      refine lv_astore_n (lv' := [(3, .ref q9), (0, .ref b), (1, .int x), (2, .int on)]) hx hb dL_hydrants_7 rfl hl (by decide) rfl (fun ls hl => ?_)
      refine lv_ldc (v := (-9999001)) hx hb hown (hts (.constant RL 15 (-9999001)) (by decide +kernel)) dL_hydrants_8 ?_
      have hw0 : pv (h_X6_hydrant X x on) X = (-9999001, X) := by rw [hE]; rfl
      exact vx_ret (W.iret hx hb hr (fun t ht hW => ⟨by rw [hw0], by rw [hw0, ht]; exact hPb, hS.F ht⟩) hS.2.2 dL_hydrants_10)
    · refine vx_catch (name := "java/lang/IllegalStateException") (E := "java/lang/IllegalStateException") hown [⟨0, 6, 7, 13⟩] ⟨0, 6, 11, 16⟩ [] htab (fun z hz => by rw [List.mem_singleton.mp hz]; exact .inr ⟨by decide, "java/lang/IndexOutOfBoundsException", hts (.classLink RL 13 "java/lang/IndexOutOfBoundsException") (by decide +kernel), (hN _ (List.mem_of_getElem? (i := 2) rfl))⟩) (by decide) (by decide) (hts (.classLink RL 16 "java/lang/IllegalStateException") (by decide +kernel)) (hTh.w _ (List.mem_of_getElem? (i := 4) rfl)) hce hcv hcl ?_
      refine lv_astore_n (lv' := [(3, .ref q9), (0, .ref b), (1, .int x), (2, .int on)]) hx hb dL_hydrants_11 rfl hl (by decide) rfl (fun ls hl => ?_)
      refine lv_ldc (v := (-9999003)) hx hb hown (hts (.constant RL 18 (-9999003)) (by decide +kernel)) dL_hydrants_12 ?_
      have hw0 : pv (h_X6_hydrant X x on) X = (-9999003, X) := by rw [hE]; rfl
      exact vx_ret (W.iret hx hb hr (fun t ht hW => ⟨by rw [hw0], by rw [hw0, ht]; exact hPb, hS.F ht⟩) hS.2.2 dL_hydrants_14)

theorem th_jam (X : Cx) (len : Int32) (sd : Int64) (E : String) (h : h_X6_jam X len sd = .inl E) : E = "java/lang/IllegalArgumentException" := by
  rw [h_X6_jam] at h
  by_cases q1 : (f_X6_requireLength len) = 0
  · rw [if_pos q1] at h
    cases h
    exact rfl
  · rw [if_neg q1] at h
    cases h

set_option maxHeartbeats 4000000 in
set_option maxRecDepth 100000 in
theorem c_L_jams (l : Launch) (G : GG) (b : Nat) (X : Cx) (len : Int32) (sd : Int64) (hst : l.stackTraces = false) : vx_Met l yL_jams wsL_jams ({ frames := 10, cells := 1, slots := 6, locals := 163 }) (PcN G (blk b (b + 170)) [.ref b, .int len, .long sd] (Cb G b X)) (QM (some (.int (pv (h_X6_jam X len sd) X).1)) (Cb G b (pv (h_X6_jam X len sd) X).2) (blk b (b + 170))) XNo 1 6 (blk b (b + 170)) := by
  have hth : ∀ E, h_X6_jam X len sd = .inl E → E = "java/lang/IllegalArgumentException" := fun E => th_jam X len sd E
  refine metW (cc := cL_jams) (maxL := 5) (ret := (some .int)) (hh := [(0, 6, 7, 23)]) (by decide) rfl ?_
  intro p e s m below meth cd hx hb hr hml hown hts hlocks htab hP hO hTh hN
  have hS : va_S (blk b (b + 170)) s.heap s.heap [] := va_S.rf
  have hl := lv_entry ([.ref b, .int len, .long sd]) (n := 5) (Nat.le_of_ble_eq_true rfl)
  rw [lg_entry_eq]
  generalize (lg_sl ([.ref b, .int len, .long sd]) ++ List.replicate (5 - (lg_sl ([.ref b, .int len, .long sd])).length) Slot.unset).toArray = ls at hl ⊢
  have hl : lv_has ls 5 [(0, .ref b), (1, .int len), (2, .long sd)] := hl
  refine lv_aload_n hx hb dL_jams_0 rfl (lv_at hl 0 rfl) ?_
  refine lv_iload_n hx hb dL_jams_1 rfl (lv_at hl 1 rfl) ?_
  refine lv_lload_n hx hb dL_jams_2 rfl (lv_at hl 2 rfl) ?_
  refine cl_xi (xW (A := (blk b (b + 170))) (As := [.int len, .long sd]) (rest := []) ⟨hx, hb, hml, hown, hts⟩ (c_X6_jam l G b X len sd hst) (cwV 2 hts gL_jams_X6_jam rfl rfl rfl (by decide +kernel) ⟨Nat.le_of_ble_eq_true rfl, Nat.le_of_ble_eq_true rfl⟩) (cb_recv hO hP) hP hO (fun U hU hW => hTh.warm hW hU) rfl hl.1 (Nat.le_of_ble_eq_true rfl) dL_jams_3 ⟨Nat.le_of_ble_eq_true rfl, Nat.le_of_ble_eq_true rfl⟩) (fun r X9 H1 L hE hPx hs hk hL => ?_) (fun E ce q9 H1 L hE hs hk hL hce hcv hcl => ?_)
  · have hS := S_app hS hs hk hL (fun q h => h)
    have hw0 : pv (h_X6_jam X len sd) X = (r, X9) := by rw [hE]; rfl
    exact vx_ret (W.iret hx hb hr (fun t ht hW => ⟨by rw [hw0], by rw [hw0, ht]; exact hPx, hS.F ht⟩) hS.2.2 dL_jams_6)
  · have hS := S_app (fr := (blk b (b + 170))) hS hs (fun q h _ => hk q h) (fun z hz => (hL z hz)) (fun q h => h)
    have hPb : Cb G b X H1 := cb_out (fr := noA) hP (fun q h _ => hk q h) (fun _ _ _ z => z)
    obtain rfl := hth E hE
    refine vx_catch (name := "java/lang/IllegalArgumentException") (E := "java/lang/IllegalArgumentException") hown [] ⟨0, 6, 7, 23⟩ [] htab (fun z hz => absurd hz List.not_mem_nil) (by decide) (by decide) (hts (.classLink RL 23 "java/lang/IllegalArgumentException") (by decide +kernel)) (hTh.w _ (List.mem_of_getElem? (i := 3) rfl)) hce hcv hcl ?_
    refine lv_astore (lv' := [(4, .ref q9), (0, .ref b), (1, .int len), (2, .long sd)]) hx hb dL_jams_7 hl (by decide) rfl (fun ls hl => ?_)
    refine lv_ldc (v := (-9999002)) hx hb hown (hts (.constant RL 25 (-9999002)) (by decide +kernel)) dL_jams_9 ?_
    have hw0 : pv (h_X6_jam X len sd) X = (-9999002, X) := by rw [hE]; rfl
    exact vx_ret (W.iret hx hb hr (fun t ht hW => ⟨by rw [hw0], by rw [hw0, ht]; exact hPb, hS.F ht⟩) hS.2.2 dL_jams_11)

theorem th_runScript (X : Cx) (w : Int32) (sc : Int64) (E : String) (h : h_X6_runScript X w sc = .inl E) : E = "java/lang/IllegalArgumentException" := by
  rw [h_X6_runScript] at h
  by_cases q1 : w < 1
  · rw [if_pos q1] at h
    cases h
    exact rfl
  · rw [if_neg q1] at h
    by_cases q2 : w ≤ 3
    · rw [if_pos q2] at h
      exact unit_E _ _ _ _ _ _ h
    · rw [if_neg q2] at h
      cases h
      exact rfl

set_option maxHeartbeats 4000000 in
set_option maxRecDepth 100000 in
theorem c_L_doScript (l : Launch) (G : GG) (b : Nat) (X : Cx) (w : Int32) (sc : Int64) (hst : l.stackTraces = false) : vx_Met l yL_doScript wsL_doScript ({ frames := 9, cells := 1, slots := 6, locals := 169 }) (PcN G (blk b (b + 170)) [.ref b, .int w, .long sc] (Cb G b X)) (QM (some (.int (pv (h_X6_runScript X w sc) X).1)) (Cb G b (pv (h_X6_runScript X w sc) X).2) (blk b (b + 170))) XNo 1 6 (blk b (b + 170)) := by
  have hth : ∀ E, h_X6_runScript X w sc = .inl E → E = "java/lang/IllegalArgumentException" := fun E => th_runScript X w sc E
  refine metW (cc := cL_doScript) (maxL := 5) (ret := (some .int)) (hh := [(0, 6, 7, 23)]) (by decide) rfl ?_
  intro p e s m below meth cd hx hb hr hml hown hts hlocks htab hP hO hTh hN
  have hS : va_S (blk b (b + 170)) s.heap s.heap [] := va_S.rf
  have hl := lv_entry ([.ref b, .int w, .long sc]) (n := 5) (Nat.le_of_ble_eq_true rfl)
  rw [lg_entry_eq]
  generalize (lg_sl ([.ref b, .int w, .long sc]) ++ List.replicate (5 - (lg_sl ([.ref b, .int w, .long sc])).length) Slot.unset).toArray = ls at hl ⊢
  have hl : lv_has ls 5 [(0, .ref b), (1, .int w), (2, .long sc)] := hl
  refine lv_aload_n hx hb dL_doScript_0 rfl (lv_at hl 0 rfl) ?_
  refine lv_iload_n hx hb dL_doScript_1 rfl (lv_at hl 1 rfl) ?_
  refine lv_lload_n hx hb dL_doScript_2 rfl (lv_at hl 2 rfl) ?_
  refine cl_xi (xW (A := (blk b (b + 170))) (As := [.int w, .long sc]) (rest := []) ⟨hx, hb, hml, hown, hts⟩ (c_X6_runScript l G b X w sc hst) (cwV 2 hts gL_doScript_X6_runScript rfl rfl rfl (by decide +kernel) ⟨Nat.le_of_ble_eq_true rfl, Nat.le_of_ble_eq_true rfl⟩) (cb_recv hO hP) hP hO (fun U hU hW => hTh.warm hW hU) rfl hl.1 (Nat.le_of_ble_eq_true rfl) dL_doScript_3 ⟨Nat.le_of_ble_eq_true rfl, Nat.le_of_ble_eq_true rfl⟩) (fun r X9 H1 L hE hPx hs hk hL => ?_) (fun E ce q9 H1 L hE hs hk hL hce hcv hcl => ?_)
  · have hS := S_app hS hs hk hL (fun q h => h)
    have hw0 : pv (h_X6_runScript X w sc) X = (r, X9) := by rw [hE]; rfl
    exact vx_ret (W.iret hx hb hr (fun t ht hW => ⟨by rw [hw0], by rw [hw0, ht]; exact hPx, hS.F ht⟩) hS.2.2 dL_doScript_6)
  · have hS := S_app (fr := (blk b (b + 170))) hS hs (fun q h _ => hk q h) (fun z hz => (hL z hz)) (fun q h => h)
    have hPb : Cb G b X H1 := cb_out (fr := noA) hP (fun q h _ => hk q h) (fun _ _ _ z => z)
    obtain rfl := hth E hE
    refine vx_catch (name := "java/lang/IllegalArgumentException") (E := "java/lang/IllegalArgumentException") hown [] ⟨0, 6, 7, 23⟩ [] htab (fun z hz => absurd hz List.not_mem_nil) (by decide) (by decide) (hts (.classLink RL 23 "java/lang/IllegalArgumentException") (by decide +kernel)) (hTh.w _ (List.mem_of_getElem? (i := 3) rfl)) hce hcv hcl ?_
    refine lv_astore (lv' := [(4, .ref q9), (0, .ref b), (1, .int w), (2, .long sc)]) hx hb dL_doScript_7 hl (by decide) rfl (fun ls hl => ?_)
    refine lv_ldc (v := (-9999002)) hx hb hown (hts (.constant RL 25 (-9999002)) (by decide +kernel)) dL_doScript_9 ?_
    have hw0 : pv (h_X6_runScript X w sc) X = (-9999002, X) := by rw [hE]; rfl
    exact vx_ret (W.iret hx hb hr (fun t ht hW => ⟨by rw [hw0], by rw [hw0, ht]; exact hPb, hS.F ht⟩) hS.2.2 dL_doScript_11)

theorem th_simulate (X : Cx) (sd : Int64) (w : Int32) (E : String) (h : h_X6_simulate X sd w = .inl E) : E = "java/lang/IllegalArgumentException" := by
  rw [h_X6_simulate] at h
  by_cases q1 : w < 1
  · rw [if_pos q1] at h
    cases h
    exact rfl
  · rw [if_neg q1] at h
    by_cases q2 : w ≤ 60
    · rw [if_pos q2] at h
      exact absurd h (ni_lp_xSim _ _ _ _ _)
    · rw [if_neg q2] at h
      cases h
      exact rfl

set_option maxHeartbeats 4000000 in
set_option maxRecDepth 100000 in
theorem c_L_doSimulate (l : Launch) (G : GG) (b : Nat) (X : Cx) (sd : Int64) (w : Int32) (hst : l.stackTraces = false) : vx_Met l yL_doSimulate wsL_doSimulate ({ frames := 9, cells := 1, slots := 6, locals := 164 }) (PcN G (blk b (b + 170)) [.ref b, .long sd, .int w] (Cb G b X)) (QM (some (.int (pv (h_X6_simulate X sd w) X).1)) (Cb G b (pv (h_X6_simulate X sd w) X).2) (blk b (b + 170))) XNo 1 6 (blk b (b + 170)) := by
  have hth : ∀ E, h_X6_simulate X sd w = .inl E → E = "java/lang/IllegalArgumentException" := fun E => th_simulate X sd w E
  refine metW (cc := cL_doSimulate) (maxL := 5) (ret := (some .int)) (hh := [(0, 6, 7, 23)]) (by decide) rfl ?_
  intro p e s m below meth cd hx hb hr hml hown hts hlocks htab hP hO hTh hN
  have hS : va_S (blk b (b + 170)) s.heap s.heap [] := va_S.rf
  have hl := lv_entry ([.ref b, .long sd, .int w]) (n := 5) (Nat.le_of_ble_eq_true rfl)
  rw [lg_entry_eq]
  generalize (lg_sl ([.ref b, .long sd, .int w]) ++ List.replicate (5 - (lg_sl ([.ref b, .long sd, .int w])).length) Slot.unset).toArray = ls at hl ⊢
  have hl : lv_has ls 5 [(0, .ref b), (1, .long sd), (3, .int w)] := hl
  refine lv_aload_n hx hb dL_doSimulate_0 rfl (lv_at hl 0 rfl) ?_
  refine lv_lload_n hx hb dL_doSimulate_1 rfl (lv_at hl 1 rfl) ?_
  refine lv_iload_n hx hb dL_doSimulate_2 rfl (lv_at hl 2 rfl) ?_
  refine cl_xi (xW (A := (blk b (b + 170))) (As := [.long sd, .int w]) (rest := []) ⟨hx, hb, hml, hown, hts⟩ (c_X6_simulate l G b X sd w hst) (cwV 2 hts gL_doSimulate_X6_simulate rfl rfl rfl (by decide +kernel) ⟨Nat.le_of_ble_eq_true rfl, Nat.le_of_ble_eq_true rfl⟩) (cb_recv hO hP) hP hO (fun U hU hW => hTh.warm hW hU) rfl hl.1 (Nat.le_of_ble_eq_true rfl) dL_doSimulate_3 ⟨Nat.le_of_ble_eq_true rfl, Nat.le_of_ble_eq_true rfl⟩) (fun r X9 H1 L hE hPx hs hk hL => ?_) (fun E ce q9 H1 L hE hs hk hL hce hcv hcl => ?_)
  · have hS := S_app hS hs hk hL (fun q h => h)
    have hw0 : pv (h_X6_simulate X sd w) X = (r, X9) := by rw [hE]; rfl
    exact vx_ret (W.iret hx hb hr (fun t ht hW => ⟨by rw [hw0], by rw [hw0, ht]; exact hPx, hS.F ht⟩) hS.2.2 dL_doSimulate_6)
  · have hS := S_app (fr := (blk b (b + 170))) hS hs (fun q h _ => hk q h) (fun z hz => (hL z hz)) (fun q h => h)
    have hPb : Cb G b X H1 := cb_out (fr := noA) hP (fun q h _ => hk q h) (fun _ _ _ z => z)
    obtain rfl := hth E hE
    refine vx_catch (name := "java/lang/IllegalArgumentException") (E := "java/lang/IllegalArgumentException") hown [] ⟨0, 6, 7, 23⟩ [] htab (fun z hz => absurd hz List.not_mem_nil) (by decide) (by decide) (hts (.classLink RL 23 "java/lang/IllegalArgumentException") (by decide +kernel)) (hTh.w _ (List.mem_of_getElem? (i := 3) rfl)) hce hcv hcl ?_
    refine lv_astore (lv' := [(4, .ref q9), (0, .ref b), (1, .long sd), (3, .int w)]) hx hb dL_doSimulate_7 hl (by decide) rfl (fun ls hl => ?_)
    refine lv_ldc (v := (-9999002)) hx hb hown (hts (.constant RL 25 (-9999002)) (by decide +kernel)) dL_doSimulate_9 ?_
    have hw0 : pv (h_X6_simulate X sd w) X = (-9999002, X) := by rw [hE]; rfl
    exact vx_ret (W.iret hx hb hr (fun t ht hW => ⟨by rw [hw0], by rw [hw0, ht]; exact hPb, hS.F ht⟩) hS.2.2 dL_doSimulate_11)

theorem th_append (X : Cx) (c : Int32) (E : String) (h : h_X6_append X c = .inl E) : E = "java/lang/IllegalArgumentException" ∨ E = "java/lang/IllegalStateException" := by
  rw [h_X6_append] at h
  by_cases q1 : c < 0
  · rw [if_pos q1] at h
    cases h
    exact .inl rfl
  · rw [if_neg q1] at h
    by_cases q2 : c ≤ 255
    · rw [if_pos q2] at h
      by_cases q3 : (f_X5_isFull (xT X)) = 0
      · rw [if_pos q3] at h
        cases h
      · rw [if_neg q3] at h
        cases h
        exact .inr rfl
    · rw [if_neg q2] at h
      cases h
      exact .inl rfl

set_option maxHeartbeats 4000000 in
set_option maxRecDepth 100000 in
theorem c_L_tryAppend (l : Launch) (G : GG) (b : Nat) (X : Cx) (c : Int32) (hst : l.stackTraces = false) : vx_Met l yL_tryAppend wsL_tryAppend ({ frames := 9, cells := 1, slots := 6, locals := 141 }) (PcN G (blk b (b + 170)) [.ref b, .int c] (Cb G b X)) (QM (some (.int (pv (h_X6_append X c) X).1)) (Cb G b (pv (h_X6_append X c) X).2) (blk b (b + 170))) XNo 1 6 (blk b (b + 170)) := by
  have hth : ∀ E, h_X6_append X c = .inl E → E = "java/lang/IllegalArgumentException" ∨ E = "java/lang/IllegalStateException" := fun E => th_append X c E
  refine metW (cc := cL_tryAppend) (maxL := 3) (ret := (some .int)) (hh := [(0, 5, 6, 23), (0, 5, 10, 16)]) (by decide) rfl ?_
  intro p e s m below meth cd hx hb hr hml hown hts hlocks htab hP hO hTh hN
  have hS : va_S (blk b (b + 170)) s.heap s.heap [] := va_S.rf
  have hl := lv_entry ([.ref b, .int c]) (n := 3) (Nat.le_of_ble_eq_true rfl)
  rw [lg_entry_eq]
  generalize (lg_sl ([.ref b, .int c]) ++ List.replicate (3 - (lg_sl ([.ref b, .int c])).length) Slot.unset).toArray = ls at hl ⊢
  have hl : lv_has ls 3 [(0, .ref b), (1, .int c)] := hl
  refine lv_aload_n hx hb dL_tryAppend_0 rfl (lv_at hl 0 rfl) ?_
  refine lv_iload_n hx hb dL_tryAppend_1 rfl (lv_at hl 1 rfl) ?_
  refine cl_xi (xW (A := (blk b (b + 170))) (As := [.int c]) (rest := []) ⟨hx, hb, hml, hown, hts⟩ (c_X6_append l G b X c hst) (cwV 1 hts gL_tryAppend_X6_append rfl rfl rfl (by decide +kernel) ⟨Nat.le_of_ble_eq_true rfl, Nat.le_of_ble_eq_true rfl⟩) (cb_recv hO hP) hP hO (fun U hU hW => hTh.warm hW hU) rfl hl.1 (Nat.le_of_ble_eq_true rfl) dL_tryAppend_2 ⟨Nat.le_of_ble_eq_true rfl, Nat.le_of_ble_eq_true rfl⟩) (fun r X9 H1 L hE hPx hs hk hL => ?_) (fun E ce q9 H1 L hE hs hk hL hce hcv hcl => ?_)
  · have hS := S_app hS hs hk hL (fun q h => h)
    have hw0 : pv (h_X6_append X c) X = (r, X9) := by rw [hE]; rfl
    exact vx_ret (W.iret hx hb hr (fun t ht hW => ⟨by rw [hw0], by rw [hw0, ht]; exact hPx, hS.F ht⟩) hS.2.2 dL_tryAppend_5)
  · have hS := S_app (fr := (blk b (b + 170))) hS hs (fun q h _ => hk q h) (fun z hz => (hL z hz)) (fun q h => h)
    have hPb : Cb G b X H1 := cb_out (fr := noA) hP (fun q h _ => hk q h) (fun _ _ _ z => z)
    rcases hth E hE with rfl | rfl
    · refine vx_catch (name := "java/lang/IllegalArgumentException") (E := "java/lang/IllegalArgumentException") hown [] ⟨0, 5, 6, 23⟩ [⟨0, 5, 10, 16⟩] htab (fun z hz => absurd hz List.not_mem_nil) (by decide) (by decide) (hts (.classLink RL 23 "java/lang/IllegalArgumentException") (by decide +kernel)) (hTh.w _ (List.mem_of_getElem? (i := 3) rfl)) hce hcv hcl ?_
      refine lv_astore_n (lv' := [(2, .ref q9), (0, .ref b), (1, .int c)]) hx hb dL_tryAppend_6 rfl hl (by decide) rfl (fun ls hl => ?_)
      refine lv_ldc (v := (-9999002)) hx hb hown (hts (.constant RL 25 (-9999002)) (by decide +kernel)) dL_tryAppend_7 ?_
      have hw0 : pv (h_X6_append X c) X = (-9999002, X) := by rw [hE]; rfl
      exact vx_ret (W.iret hx hb hr (fun t ht hW => ⟨by rw [hw0], by rw [hw0, ht]; exact hPb, hS.F ht⟩) hS.2.2 dL_tryAppend_9)
    · refine vx_catch (name := "java/lang/IllegalStateException") (E := "java/lang/IllegalStateException") hown [⟨0, 5, 6, 23⟩] ⟨0, 5, 10, 16⟩ [] htab (fun z hz => by rw [List.mem_singleton.mp hz]; exact .inr ⟨by decide, "java/lang/IllegalArgumentException", hts (.classLink RL 23 "java/lang/IllegalArgumentException") (by decide +kernel), (hN _ (List.mem_of_getElem? (i := 0) rfl))⟩) (by decide) (by decide) (hts (.classLink RL 16 "java/lang/IllegalStateException") (by decide +kernel)) (hTh.w _ (List.mem_of_getElem? (i := 4) rfl)) hce hcv hcl ?_
      refine lv_astore_n (lv' := [(2, .ref q9), (0, .ref b), (1, .int c)]) hx hb dL_tryAppend_10 rfl hl (by decide) rfl (fun ls hl => ?_)
      refine lv_ldc (v := (-9999003)) hx hb hown (hts (.constant RL 18 (-9999003)) (by decide +kernel)) dL_tryAppend_11 ?_
      have hw0 : pv (h_X6_append X c) X = (-9999003, X) := by rw [hE]; rfl
      exact vx_ret (W.iret hx hb hr (fun t ht hW => ⟨by rw [hw0], by rw [hw0, ht]; exact hPb, hS.F ht⟩) hS.2.2 dL_tryAppend_13)

theorem th_load (X : Cx) (E : String) (h : h_X6_load X = .inl E) : E = "java/lang/IllegalStateException" := by
  rw [h_X6_load] at h
  by_cases q1 : (f_X5_firstError (xT X)) = (-1)
  · rw [if_pos q1] at h
    exact absurd h (ni_lp_xLoad _ _ _ _ _)
  · rw [if_neg q1] at h
    cases h
    exact rfl

set_option maxHeartbeats 4000000 in
set_option maxRecDepth 100000 in
theorem c_L_tryLoad (l : Launch) (G : GG) (b : Nat) (X : Cx) (hst : l.stackTraces = false) : vx_Met l yL_tryLoad wsL_tryLoad ({ frames := 9, cells := 1, slots := 6, locals := 161 }) (PcN G (blk b (b + 170)) [.ref b] (Cb G b X)) (QM (some (.int (pv (h_X6_load X) X).1)) (Cb G b (pv (h_X6_load X) X).2) (blk b (b + 170))) XNo 1 6 (blk b (b + 170)) := by
  have hth : ∀ E, h_X6_load X = .inl E → E = "java/lang/IllegalStateException" := fun E => th_load X E
  refine metW (cc := cL_tryLoad) (maxL := 2) (ret := (some .int)) (hh := [(0, 4, 5, 16)]) (by decide) rfl ?_
  intro p e s m below meth cd hx hb hr hml hown hts hlocks htab hP hO hTh hN
  have hS : va_S (blk b (b + 170)) s.heap s.heap [] := va_S.rf
  have hl := lv_entry ([.ref b]) (n := 2) (Nat.le_of_ble_eq_true rfl)
  rw [lg_entry_eq]
  generalize (lg_sl ([.ref b]) ++ List.replicate (2 - (lg_sl ([.ref b])).length) Slot.unset).toArray = ls at hl ⊢
  have hl : lv_has ls 2 [(0, .ref b)] := hl
  refine lv_aload_n hx hb dL_tryLoad_0 rfl (lv_at hl 0 rfl) ?_
  refine cl_xi (xW (A := (blk b (b + 170))) (As := []) (rest := []) ⟨hx, hb, hml, hown, hts⟩ (c_X6_load l G b X hst) (cwV 0 hts gL_tryLoad_X6_load rfl rfl rfl (by decide +kernel) ⟨Nat.le_of_ble_eq_true rfl, Nat.le_of_ble_eq_true rfl⟩) (cb_recv hO hP) hP hO (fun U hU hW => hTh.warm hW hU) rfl hl.1 (Nat.le_of_ble_eq_true rfl) dL_tryLoad_1 ⟨Nat.le_of_ble_eq_true rfl, Nat.le_of_ble_eq_true rfl⟩) (fun r X9 H1 L hE hPx hs hk hL => ?_) (fun E ce q9 H1 L hE hs hk hL hce hcv hcl => ?_)
  · have hS := S_app hS hs hk hL (fun q h => h)
    have hw0 : pv (h_X6_load X) X = (r, X9) := by rw [hE]; rfl
    exact vx_ret (W.iret hx hb hr (fun t ht hW => ⟨by rw [hw0], by rw [hw0, ht]; exact hPx, hS.F ht⟩) hS.2.2 dL_tryLoad_4)
  · have hS := S_app (fr := (blk b (b + 170))) hS hs (fun q h _ => hk q h) (fun z hz => (hL z hz)) (fun q h => h)
    have hPb : Cb G b X H1 := cb_out (fr := noA) hP (fun q h _ => hk q h) (fun _ _ _ z => z)
    obtain rfl := hth E hE
    refine vx_catch (name := "java/lang/IllegalStateException") (E := "java/lang/IllegalStateException") hown [] ⟨0, 4, 5, 16⟩ [] htab (fun z hz => absurd hz List.not_mem_nil) (by decide) (by decide) (hts (.classLink RL 16 "java/lang/IllegalStateException") (by decide +kernel)) (hTh.w _ (List.mem_of_getElem? (i := 4) rfl)) hce hcv hcl ?_
    refine lv_astore_n (lv' := [(1, .ref q9), (0, .ref b)]) hx hb dL_tryLoad_5 rfl hl (by decide) rfl (fun ls hl => ?_)
    refine lv_ldc (v := (-9999003)) hx hb hown (hts (.constant RL 18 (-9999003)) (by decide +kernel)) dL_tryLoad_6 ?_
    have hw0 : pv (h_X6_load X) X = (-9999003, X) := by rw [hE]; rfl
    exact vx_ret (W.iret hx hb hr (fun t ht hW => ⟨by rw [hw0], by rw [hw0, ht]; exact hPb, hS.F ht⟩) hS.2.2 dL_tryLoad_8)

theorem th_about (X : Cx) (w : Int32) (E : String) (h : h_X6_about X w = .inl E) : E = "java/lang/IllegalArgumentException" := by
  rw [h_X6_about] at h
  by_cases q1 : w = 0
  · rw [if_pos q1] at h
    cases h
  · rw [if_neg q1] at h
    by_cases q2 : w = 1
    · rw [if_pos q2] at h
      cases h
    · rw [if_neg q2] at h
      by_cases q3 : w = 2
      · rw [if_pos q3] at h
        cases h
      · rw [if_neg q3] at h
        by_cases q4 : w = 3
        · rw [if_pos q4] at h
          cases h
        · rw [if_neg q4] at h
          by_cases q5 : w = 4
          · rw [if_pos q5] at h
            cases h
          · rw [if_neg q5] at h
            by_cases q6 : w = 5
            · rw [if_pos q6] at h
              cases h
            · rw [if_neg q6] at h
              by_cases q7 : w = 6
              · rw [if_pos q7] at h
                cases h
              · rw [if_neg q7] at h
                by_cases q8 : w = 7
                · rw [if_pos q8] at h
                  cases h
                · rw [if_neg q8] at h
                  by_cases q9 : w = 8
                  · rw [if_pos q9] at h
                    cases h
                  · rw [if_neg q9] at h
                    by_cases q10 : w = 9
                    · rw [if_pos q10] at h
                      cases h
                    · rw [if_neg q10] at h
                      by_cases q11 : w = 10
                      · rw [if_pos q11] at h
                        cases h
                      · rw [if_neg q11] at h
                        by_cases q12 : w = 11
                        · rw [if_pos q12] at h
                          cases h
                        · rw [if_neg q12] at h
                          cases h
                          exact rfl

set_option maxHeartbeats 4000000 in
set_option maxRecDepth 100000 in
theorem c_L_tryAbout (l : Launch) (G : GG) (b : Nat) (X : Cx) (w : Int32) (hst : l.stackTraces = false) : vx_Met l yL_tryAbout wsL_tryAbout ({ frames := 9, cells := 1, slots := 6, locals := 141 }) (PcN G (blk b (b + 170)) [.ref b, .int w] (Cb G b X)) (QM (some (.int (pv (h_X6_about X w) X).1)) (Cb G b (pv (h_X6_about X w) X).2) (blk b (b + 170))) XNo 1 6 (blk b (b + 170)) := by
  have hth : ∀ E, h_X6_about X w = .inl E → E = "java/lang/IllegalArgumentException" := fun E => th_about X w E
  refine metW (cc := cL_tryAbout) (maxL := 3) (ret := (some .int)) (hh := [(0, 5, 6, 23)]) (by decide) rfl ?_
  intro p e s m below meth cd hx hb hr hml hown hts hlocks htab hP hO hTh hN
  have hS : va_S (blk b (b + 170)) s.heap s.heap [] := va_S.rf
  have hl := lv_entry ([.ref b, .int w]) (n := 3) (Nat.le_of_ble_eq_true rfl)
  rw [lg_entry_eq]
  generalize (lg_sl ([.ref b, .int w]) ++ List.replicate (3 - (lg_sl ([.ref b, .int w])).length) Slot.unset).toArray = ls at hl ⊢
  have hl : lv_has ls 3 [(0, .ref b), (1, .int w)] := hl
  refine lv_aload_n hx hb dL_tryAbout_0 rfl (lv_at hl 0 rfl) ?_
  refine lv_iload_n hx hb dL_tryAbout_1 rfl (lv_at hl 1 rfl) ?_
  refine cl_xi (xW (A := (blk b (b + 170))) (As := [.int w]) (rest := []) ⟨hx, hb, hml, hown, hts⟩ (c_X6_about l G b X w hst) (cwV 1 hts gL_tryAbout_X6_about rfl rfl rfl (by decide +kernel) ⟨Nat.le_of_ble_eq_true rfl, Nat.le_of_ble_eq_true rfl⟩) (cb_recv hO hP) hP hO (fun U hU hW => hTh.warm hW hU) rfl hl.1 (Nat.le_of_ble_eq_true rfl) dL_tryAbout_2 ⟨Nat.le_of_ble_eq_true rfl, Nat.le_of_ble_eq_true rfl⟩) (fun r X9 H1 L hE hPx hs hk hL => ?_) (fun E ce q9 H1 L hE hs hk hL hce hcv hcl => ?_)
  · have hS := S_app hS hs hk hL (fun q h => h)
    have hw0 : pv (h_X6_about X w) X = (r, X9) := by rw [hE]; rfl
    exact vx_ret (W.iret hx hb hr (fun t ht hW => ⟨by rw [hw0], by rw [hw0, ht]; exact hPx, hS.F ht⟩) hS.2.2 dL_tryAbout_5)
  · have hS := S_app (fr := (blk b (b + 170))) hS hs (fun q h _ => hk q h) (fun z hz => (hL z hz)) (fun q h => h)
    have hPb : Cb G b X H1 := cb_out (fr := noA) hP (fun q h _ => hk q h) (fun _ _ _ z => z)
    obtain rfl := hth E hE
    refine vx_catch (name := "java/lang/IllegalArgumentException") (E := "java/lang/IllegalArgumentException") hown [] ⟨0, 5, 6, 23⟩ [] htab (fun z hz => absurd hz List.not_mem_nil) (by decide) (by decide) (hts (.classLink RL 23 "java/lang/IllegalArgumentException") (by decide +kernel)) (hTh.w _ (List.mem_of_getElem? (i := 3) rfl)) hce hcv hcl ?_
    refine lv_astore_n (lv' := [(2, .ref q9), (0, .ref b), (1, .int w)]) hx hb dL_tryAbout_6 rfl hl (by decide) rfl (fun ls hl => ?_)
    refine lv_ldc (v := (-9999002)) hx hb hown (hts (.constant RL 25 (-9999002)) (by decide +kernel)) dL_tryAbout_7 ?_
    have hw0 : pv (h_X6_about X w) X = (-9999002, X) := by rw [hE]; rfl
    exact vx_ret (W.iret hx hb hr (fun t ht hW => ⟨by rw [hw0], by rw [hw0, ht]; exact hPb, hS.F ht⟩) hS.2.2 dL_tryAbout_9)

theorem th_carOf (X : Cx) (c : Int32) (w : Int32) (E : String) (h : h_X6_carOf X c w = .inl E) : E = "java/lang/IndexOutOfBoundsException" ∨ E = "java/lang/IllegalArgumentException" := by
  rw [h_X6_carOf] at h
  by_cases q1 : (f_X6_requireCar X c) = 0
  · rw [if_pos q1] at h
    cases h
    exact .inl rfl
  · rw [if_neg q1] at h
    by_cases q2 : w = 0
    · rw [if_pos q2] at h
      cases h
    · rw [if_neg q2] at h
      by_cases q3 : w = 1
      · rw [if_pos q3] at h
        cases h
      · rw [if_neg q3] at h
        by_cases q4 : w = 2
        · rw [if_pos q4] at h
          cases h
        · rw [if_neg q4] at h
          by_cases q5 : w = 3
          · rw [if_pos q5] at h
            cases h
          · rw [if_neg q5] at h
            by_cases q6 : w = 4
            · rw [if_pos q6] at h
              cases h
            · rw [if_neg q6] at h
              by_cases q7 : w = 5
              · rw [if_pos q7] at h
                cases h
              · rw [if_neg q7] at h
                by_cases q8 : w = 6
                · rw [if_pos q8] at h
                  by_cases q9 : (f_X4_isParked (xN X) c) = 0
                  · rw [if_pos q9] at h
                    cases h
                  · rw [if_neg q9] at h
                    cases h
                · rw [if_neg q8] at h
                  cases h
                  exact .inr rfl

set_option maxHeartbeats 4000000 in
set_option maxRecDepth 100000 in
theorem c_L_tryCar (l : Launch) (G : GG) (b : Nat) (X : Cx) (c : Int32) (w : Int32) (hst : l.stackTraces = false) : vx_Met l yL_tryCar wsL_tryCar ({ frames := 10, cells := 1, slots := 6, locals := 163 }) (PcN G (blk b (b + 170)) [.ref b, .int c, .int w] (Cb G b X)) (QM (some (.int (pv (h_X6_carOf X c w) X).1)) (Cb G b (pv (h_X6_carOf X c w) X).2) (blk b (b + 170))) XNo 1 6 (blk b (b + 170)) := by
  have hth : ∀ E, h_X6_carOf X c w = .inl E → E = "java/lang/IndexOutOfBoundsException" ∨ E = "java/lang/IllegalArgumentException" := fun E => th_carOf X c w E
  refine metW (cc := cL_tryCar) (maxL := 4) (ret := (some .int)) (hh := [(0, 6, 7, 13), (0, 6, 11, 23)]) (by decide) rfl ?_
  intro p e s m below meth cd hx hb hr hml hown hts hlocks htab hP hO hTh hN
  have hS : va_S (blk b (b + 170)) s.heap s.heap [] := va_S.rf
  have hl := lv_entry ([.ref b, .int c, .int w]) (n := 4) (Nat.le_of_ble_eq_true rfl)
  rw [lg_entry_eq]
  generalize (lg_sl ([.ref b, .int c, .int w]) ++ List.replicate (4 - (lg_sl ([.ref b, .int c, .int w])).length) Slot.unset).toArray = ls at hl ⊢
  have hl : lv_has ls 4 [(0, .ref b), (1, .int c), (2, .int w)] := hl
  refine lv_aload_n hx hb dL_tryCar_0 rfl (lv_at hl 0 rfl) ?_
  refine lv_iload_n hx hb dL_tryCar_1 rfl (lv_at hl 1 rfl) ?_
  refine lv_iload_n hx hb dL_tryCar_2 rfl (lv_at hl 2 rfl) ?_
  refine cl_xi (xW (A := (blk b (b + 170))) (As := [.int c, .int w]) (rest := []) ⟨hx, hb, hml, hown, hts⟩ (c_X6_carOf l G b X c w hst) (cwV 2 hts gL_tryCar_X6_carOf rfl rfl rfl (by decide +kernel) ⟨Nat.le_of_ble_eq_true rfl, Nat.le_of_ble_eq_true rfl⟩) (cb_recv hO hP) hP hO (fun U hU hW => hTh.warm hW hU) rfl hl.1 (Nat.le_of_ble_eq_true rfl) dL_tryCar_3 ⟨Nat.le_of_ble_eq_true rfl, Nat.le_of_ble_eq_true rfl⟩) (fun r X9 H1 L hE hPx hs hk hL => ?_) (fun E ce q9 H1 L hE hs hk hL hce hcv hcl => ?_)
  · have hS := S_app hS hs hk hL (fun q h => h)
    have hw0 : pv (h_X6_carOf X c w) X = (r, X9) := by rw [hE]; rfl
    exact vx_ret (W.iret hx hb hr (fun t ht hW => ⟨by rw [hw0], by rw [hw0, ht]; exact hPx, hS.F ht⟩) hS.2.2 dL_tryCar_6)
  · have hS := S_app (fr := (blk b (b + 170))) hS hs (fun q h _ => hk q h) (fun z hz => (hL z hz)) (fun q h => h)
    have hPb : Cb G b X H1 := cb_out (fr := noA) hP (fun q h _ => hk q h) (fun _ _ _ z => z)
    rcases hth E hE with rfl | rfl
    · refine vx_catch (name := "java/lang/IndexOutOfBoundsException") (E := "java/lang/IndexOutOfBoundsException") hown [] ⟨0, 6, 7, 13⟩ [⟨0, 6, 11, 23⟩] htab (fun z hz => absurd hz List.not_mem_nil) (by decide) (by decide) (hts (.classLink RL 13 "java/lang/IndexOutOfBoundsException") (by decide +kernel)) (hTh.w _ (List.mem_of_getElem? (i := 5) rfl)) hce hcv hcl ?_
      refine lv_astore_n (lv' := [(3, .ref q9), (0, .ref b), (1, .int c), (2, .int w)]) hx hb dL_tryCar_7 rfl hl (by decide) rfl (fun ls hl => ?_)
      refine lv_ldc (v := (-9999001)) hx hb hown (hts (.constant RL 15 (-9999001)) (by decide +kernel)) dL_tryCar_8 ?_
      have hw0 : pv (h_X6_carOf X c w) X = (-9999001, X) := by rw [hE]; rfl
      exact vx_ret (W.iret hx hb hr (fun t ht hW => ⟨by rw [hw0], by rw [hw0, ht]; exact hPb, hS.F ht⟩) hS.2.2 dL_tryCar_10)
    · refine vx_catch (name := "java/lang/IllegalArgumentException") (E := "java/lang/IllegalArgumentException") hown [⟨0, 6, 7, 13⟩] ⟨0, 6, 11, 23⟩ [] htab (fun z hz => by rw [List.mem_singleton.mp hz]; exact .inr ⟨by decide, "java/lang/IndexOutOfBoundsException", hts (.classLink RL 13 "java/lang/IndexOutOfBoundsException") (by decide +kernel), (hN _ (List.mem_of_getElem? (i := 1) rfl))⟩) (by decide) (by decide) (hts (.classLink RL 23 "java/lang/IllegalArgumentException") (by decide +kernel)) (hTh.w _ (List.mem_of_getElem? (i := 3) rfl)) hce hcv hcl ?_
      refine lv_astore_n (lv' := [(3, .ref q9), (0, .ref b), (1, .int c), (2, .int w)]) hx hb dL_tryCar_11 rfl hl (by decide) rfl (fun ls hl => ?_)
      refine lv_ldc (v := (-9999002)) hx hb hown (hts (.constant RL 25 (-9999002)) (by decide +kernel)) dL_tryCar_12 ?_
      have hw0 : pv (h_X6_carOf X c w) X = (-9999002, X) := by rw [hE]; rfl
      exact vx_ret (W.iret hx hb hr (fun t ht hW => ⟨by rw [hw0], by rw [hw0, ht]; exact hPb, hS.F ht⟩) hS.2.2 dL_tryCar_14)

theorem th_at (X : Cx) (x : Int32) (E : String) (h : h_X6_at X x = .inl E) : E = "java/lang/IndexOutOfBoundsException" := by
  rw [h_X6_at] at h
  by_cases q1 : (f_X6_requireCell x) = 0
  · rw [if_pos q1] at h
    cases h
    exact rfl
  · rw [if_neg q1] at h
    cases h

set_option maxHeartbeats 4000000 in
set_option maxRecDepth 100000 in
theorem c_L_tryAt (l : Launch) (G : GG) (b : Nat) (X : Cx) (x : Int32) (hst : l.stackTraces = false) : vx_Met l yL_tryAt wsL_tryAt ({ frames := 10, cells := 1, slots := 6, locals := 161 }) (PcN G (blk b (b + 170)) [.ref b, .int x] (Cb G b X)) (QM (some (.int (pv (h_X6_at X x) X).1)) (Cb G b (pv (h_X6_at X x) X).2) (blk b (b + 170))) XNo 1 6 (blk b (b + 170)) := by
  have hth : ∀ E, h_X6_at X x = .inl E → E = "java/lang/IndexOutOfBoundsException" := fun E => th_at X x E
  refine metW (cc := cL_tryAt) (maxL := 3) (ret := (some .int)) (hh := [(0, 5, 6, 13)]) (by decide) rfl ?_
  intro p e s m below meth cd hx hb hr hml hown hts hlocks htab hP hO hTh hN
  have hS : va_S (blk b (b + 170)) s.heap s.heap [] := va_S.rf
  have hl := lv_entry ([.ref b, .int x]) (n := 3) (Nat.le_of_ble_eq_true rfl)
  rw [lg_entry_eq]
  generalize (lg_sl ([.ref b, .int x]) ++ List.replicate (3 - (lg_sl ([.ref b, .int x])).length) Slot.unset).toArray = ls at hl ⊢
  have hl : lv_has ls 3 [(0, .ref b), (1, .int x)] := hl
  refine lv_aload_n hx hb dL_tryAt_0 rfl (lv_at hl 0 rfl) ?_
  refine lv_iload_n hx hb dL_tryAt_1 rfl (lv_at hl 1 rfl) ?_
  refine cl_xi (xW (A := (blk b (b + 170))) (As := [.int x]) (rest := []) ⟨hx, hb, hml, hown, hts⟩ (c_X6_at l G b X x hst) (cwV 1 hts gL_tryAt_X6_at rfl rfl rfl (by decide +kernel) ⟨Nat.le_of_ble_eq_true rfl, Nat.le_of_ble_eq_true rfl⟩) (cb_recv hO hP) hP hO (fun U hU hW => hTh.warm hW hU) rfl hl.1 (Nat.le_of_ble_eq_true rfl) dL_tryAt_2 ⟨Nat.le_of_ble_eq_true rfl, Nat.le_of_ble_eq_true rfl⟩) (fun r X9 H1 L hE hPx hs hk hL => ?_) (fun E ce q9 H1 L hE hs hk hL hce hcv hcl => ?_)
  · have hS := S_app hS hs hk hL (fun q h => h)
    have hw0 : pv (h_X6_at X x) X = (r, X9) := by rw [hE]; rfl
    exact vx_ret (W.iret hx hb hr (fun t ht hW => ⟨by rw [hw0], by rw [hw0, ht]; exact hPx, hS.F ht⟩) hS.2.2 dL_tryAt_5)
  · have hS := S_app (fr := (blk b (b + 170))) hS hs (fun q h _ => hk q h) (fun z hz => (hL z hz)) (fun q h => h)
    have hPb : Cb G b X H1 := cb_out (fr := noA) hP (fun q h _ => hk q h) (fun _ _ _ z => z)
    obtain rfl := hth E hE
    refine vx_catch (name := "java/lang/IndexOutOfBoundsException") (E := "java/lang/IndexOutOfBoundsException") hown [] ⟨0, 5, 6, 13⟩ [] htab (fun z hz => absurd hz List.not_mem_nil) (by decide) (by decide) (hts (.classLink RL 13 "java/lang/IndexOutOfBoundsException") (by decide +kernel)) (hTh.w _ (List.mem_of_getElem? (i := 5) rfl)) hce hcv hcl ?_
    refine lv_astore_n (lv' := [(2, .ref q9), (0, .ref b), (1, .int x)]) hx hb dL_tryAt_6 rfl hl (by decide) rfl (fun ls hl => ?_)
    refine lv_ldc (v := (-9999001)) hx hb hown (hts (.constant RL 15 (-9999001)) (by decide +kernel)) dL_tryAt_7 ?_
    have hw0 : pv (h_X6_at X x) X = (-9999001, X) := by rw [hE]; rfl
    exact vx_ret (W.iret hx hb hr (fun t ht hW => ⟨by rw [hw0], by rw [hw0, ht]; exact hPb, hS.F ht⟩) hS.2.2 dL_tryAt_9)

theorem th_gap (X : Cx) (k : Int32) (w : Int32) (E : String) (h : h_X6_gap X k w = .inl E) : E = "java/lang/IndexOutOfBoundsException" ∨ E = "java/lang/IllegalArgumentException" := by
  rw [h_X6_gap] at h
  by_cases q1 : (f_X4_gapStart (xN X) k) = (-1)
  · rw [if_pos q1] at h
    cases h
    exact .inl rfl
  · rw [if_neg q1] at h
    by_cases q2 : (f_X6_requireZeroOrOne w) = 0
    · rw [if_pos q2] at h
      cases h
      exact .inr rfl
    · rw [if_neg q2] at h
      by_cases q3 : w = 0
      · rw [if_pos q3] at h
        cases h
      · rw [if_neg q3] at h
        cases h

set_option maxHeartbeats 4000000 in
set_option maxRecDepth 100000 in
theorem c_L_tryGap (l : Launch) (G : GG) (b : Nat) (X : Cx) (k : Int32) (w : Int32) (hst : l.stackTraces = false) : vx_Met l yL_tryGap wsL_tryGap ({ frames := 10, cells := 1, slots := 6, locals := 163 }) (PcN G (blk b (b + 170)) [.ref b, .int k, .int w] (Cb G b X)) (QM (some (.int (pv (h_X6_gap X k w) X).1)) (Cb G b (pv (h_X6_gap X k w) X).2) (blk b (b + 170))) XNo 1 6 (blk b (b + 170)) := by
  have hth : ∀ E, h_X6_gap X k w = .inl E → E = "java/lang/IndexOutOfBoundsException" ∨ E = "java/lang/IllegalArgumentException" := fun E => th_gap X k w E
  refine metW (cc := cL_tryGap) (maxL := 4) (ret := (some .int)) (hh := [(0, 6, 7, 13), (0, 6, 11, 23)]) (by decide) rfl ?_
  intro p e s m below meth cd hx hb hr hml hown hts hlocks htab hP hO hTh hN
  have hS : va_S (blk b (b + 170)) s.heap s.heap [] := va_S.rf
  have hl := lv_entry ([.ref b, .int k, .int w]) (n := 4) (Nat.le_of_ble_eq_true rfl)
  rw [lg_entry_eq]
  generalize (lg_sl ([.ref b, .int k, .int w]) ++ List.replicate (4 - (lg_sl ([.ref b, .int k, .int w])).length) Slot.unset).toArray = ls at hl ⊢
  have hl : lv_has ls 4 [(0, .ref b), (1, .int k), (2, .int w)] := hl
  refine lv_aload_n hx hb dL_tryGap_0 rfl (lv_at hl 0 rfl) ?_
  refine lv_iload_n hx hb dL_tryGap_1 rfl (lv_at hl 1 rfl) ?_
  refine lv_iload_n hx hb dL_tryGap_2 rfl (lv_at hl 2 rfl) ?_
  refine cl_xi (xW (A := (blk b (b + 170))) (As := [.int k, .int w]) (rest := []) ⟨hx, hb, hml, hown, hts⟩ (c_X6_gap l G b X k w hst) (cwV 2 hts gL_tryGap_X6_gap rfl rfl rfl (by decide +kernel) ⟨Nat.le_of_ble_eq_true rfl, Nat.le_of_ble_eq_true rfl⟩) (cb_recv hO hP) hP hO (fun U hU hW => hTh.warm hW hU) rfl hl.1 (Nat.le_of_ble_eq_true rfl) dL_tryGap_3 ⟨Nat.le_of_ble_eq_true rfl, Nat.le_of_ble_eq_true rfl⟩) (fun r X9 H1 L hE hPx hs hk hL => ?_) (fun E ce q9 H1 L hE hs hk hL hce hcv hcl => ?_)
  · have hS := S_app hS hs hk hL (fun q h => h)
    have hw0 : pv (h_X6_gap X k w) X = (r, X9) := by rw [hE]; rfl
    exact vx_ret (W.iret hx hb hr (fun t ht hW => ⟨by rw [hw0], by rw [hw0, ht]; exact hPx, hS.F ht⟩) hS.2.2 dL_tryGap_6)
  · have hS := S_app (fr := (blk b (b + 170))) hS hs (fun q h _ => hk q h) (fun z hz => (hL z hz)) (fun q h => h)
    have hPb : Cb G b X H1 := cb_out (fr := noA) hP (fun q h _ => hk q h) (fun _ _ _ z => z)
    rcases hth E hE with rfl | rfl
    · refine vx_catch (name := "java/lang/IndexOutOfBoundsException") (E := "java/lang/IndexOutOfBoundsException") hown [] ⟨0, 6, 7, 13⟩ [⟨0, 6, 11, 23⟩] htab (fun z hz => absurd hz List.not_mem_nil) (by decide) (by decide) (hts (.classLink RL 13 "java/lang/IndexOutOfBoundsException") (by decide +kernel)) (hTh.w _ (List.mem_of_getElem? (i := 5) rfl)) hce hcv hcl ?_
      refine lv_astore_n (lv' := [(3, .ref q9), (0, .ref b), (1, .int k), (2, .int w)]) hx hb dL_tryGap_7 rfl hl (by decide) rfl (fun ls hl => ?_)
      refine lv_ldc (v := (-9999001)) hx hb hown (hts (.constant RL 15 (-9999001)) (by decide +kernel)) dL_tryGap_8 ?_
      have hw0 : pv (h_X6_gap X k w) X = (-9999001, X) := by rw [hE]; rfl
      exact vx_ret (W.iret hx hb hr (fun t ht hW => ⟨by rw [hw0], by rw [hw0, ht]; exact hPb, hS.F ht⟩) hS.2.2 dL_tryGap_10)
    · refine vx_catch (name := "java/lang/IllegalArgumentException") (E := "java/lang/IllegalArgumentException") hown [⟨0, 6, 7, 13⟩] ⟨0, 6, 11, 23⟩ [] htab (fun z hz => by rw [List.mem_singleton.mp hz]; exact .inr ⟨by decide, "java/lang/IndexOutOfBoundsException", hts (.classLink RL 13 "java/lang/IndexOutOfBoundsException") (by decide +kernel), (hN _ (List.mem_of_getElem? (i := 1) rfl))⟩) (by decide) (by decide) (hts (.classLink RL 23 "java/lang/IllegalArgumentException") (by decide +kernel)) (hTh.w _ (List.mem_of_getElem? (i := 3) rfl)) hce hcv hcl ?_
      refine lv_astore_n (lv' := [(3, .ref q9), (0, .ref b), (1, .int k), (2, .int w)]) hx hb dL_tryGap_11 rfl hl (by decide) rfl (fun ls hl => ?_)
      refine lv_ldc (v := (-9999002)) hx hb hown (hts (.constant RL 25 (-9999002)) (by decide +kernel)) dL_tryGap_12 ?_
      have hw0 : pv (h_X6_gap X k w) X = (-9999002, X) := by rw [hE]; rfl
      exact vx_ret (W.iret hx hb hr (fun t ht hW => ⟨by rw [hw0], by rw [hw0, ht]; exact hPb, hS.F ht⟩) hS.2.2 dL_tryGap_14)

theorem th_setting (X : Cx) (w : Int32) (E : String) (h : h_X6_setting X w = .inl E) : E = "java/lang/IllegalArgumentException" := by
  rw [h_X6_setting] at h
  by_cases q1 : (f_X4_settingOf (xN X) w) = (-1)
  · rw [if_pos q1] at h
    cases h
    exact rfl
  · rw [if_neg q1] at h
    cases h

set_option maxHeartbeats 4000000 in
set_option maxRecDepth 100000 in
theorem c_L_trySetting (l : Launch) (G : GG) (b : Nat) (X : Cx) (w : Int32) (hst : l.stackTraces = false) : vx_Met l yL_trySetting wsL_trySetting ({ frames := 9, cells := 1, slots := 6, locals := 142 }) (PcN G (blk b (b + 170)) [.ref b, .int w] (Cb G b X)) (QM (some (.int (pv (h_X6_setting X w) X).1)) (Cb G b (pv (h_X6_setting X w) X).2) (blk b (b + 170))) XNo 1 6 (blk b (b + 170)) := by
  have hth : ∀ E, h_X6_setting X w = .inl E → E = "java/lang/IllegalArgumentException" := fun E => th_setting X w E
  refine metW (cc := cL_trySetting) (maxL := 3) (ret := (some .int)) (hh := [(0, 5, 6, 23)]) (by decide) rfl ?_
  intro p e s m below meth cd hx hb hr hml hown hts hlocks htab hP hO hTh hN
  have hS : va_S (blk b (b + 170)) s.heap s.heap [] := va_S.rf
  have hl := lv_entry ([.ref b, .int w]) (n := 3) (Nat.le_of_ble_eq_true rfl)
  rw [lg_entry_eq]
  generalize (lg_sl ([.ref b, .int w]) ++ List.replicate (3 - (lg_sl ([.ref b, .int w])).length) Slot.unset).toArray = ls at hl ⊢
  have hl : lv_has ls 3 [(0, .ref b), (1, .int w)] := hl
  refine lv_aload_n hx hb dL_trySetting_0 rfl (lv_at hl 0 rfl) ?_
  refine lv_iload_n hx hb dL_trySetting_1 rfl (lv_at hl 1 rfl) ?_
  refine cl_xi (xW (A := (blk b (b + 170))) (As := [.int w]) (rest := []) ⟨hx, hb, hml, hown, hts⟩ (c_X6_setting l G b X w hst) (cwV 1 hts gL_trySetting_X6_setting rfl rfl rfl (by decide +kernel) ⟨Nat.le_of_ble_eq_true rfl, Nat.le_of_ble_eq_true rfl⟩) (cb_recv hO hP) hP hO (fun U hU hW => hTh.warm hW hU) rfl hl.1 (Nat.le_of_ble_eq_true rfl) dL_trySetting_2 ⟨Nat.le_of_ble_eq_true rfl, Nat.le_of_ble_eq_true rfl⟩) (fun r X9 H1 L hE hPx hs hk hL => ?_) (fun E ce q9 H1 L hE hs hk hL hce hcv hcl => ?_)
  · have hS := S_app hS hs hk hL (fun q h => h)
    have hw0 : pv (h_X6_setting X w) X = (r, X9) := by rw [hE]; rfl
    exact vx_ret (W.iret hx hb hr (fun t ht hW => ⟨by rw [hw0], by rw [hw0, ht]; exact hPx, hS.F ht⟩) hS.2.2 dL_trySetting_5)
  · have hS := S_app (fr := (blk b (b + 170))) hS hs (fun q h _ => hk q h) (fun z hz => (hL z hz)) (fun q h => h)
    have hPb : Cb G b X H1 := cb_out (fr := noA) hP (fun q h _ => hk q h) (fun _ _ _ z => z)
    obtain rfl := hth E hE
    refine vx_catch (name := "java/lang/IllegalArgumentException") (E := "java/lang/IllegalArgumentException") hown [] ⟨0, 5, 6, 23⟩ [] htab (fun z hz => absurd hz List.not_mem_nil) (by decide) (by decide) (hts (.classLink RL 23 "java/lang/IllegalArgumentException") (by decide +kernel)) (hTh.w _ (List.mem_of_getElem? (i := 3) rfl)) hce hcv hcl ?_
    refine lv_astore_n (lv' := [(2, .ref q9), (0, .ref b), (1, .int w)]) hx hb dL_trySetting_6 rfl hl (by decide) rfl (fun ls hl => ?_)
    refine lv_ldc (v := (-9999002)) hx hb hown (hts (.constant RL 25 (-9999002)) (by decide +kernel)) dL_trySetting_7 ?_
    have hw0 : pv (h_X6_setting X w) X = (-9999002, X) := by rw [hE]; rfl
    exact vx_ret (W.iret hx hb hr (fun t ht hW => ⟨by rw [hw0], by rw [hw0, ht]; exact hPb, hS.F ht⟩) hS.2.2 dL_trySetting_9)

theorem th_come (X : Cx) (len : Int32) (stay : Int32) (E : String) (h : h_X6_come X len stay = .inl E) : E = "java/lang/IllegalArgumentException" ∨ E = "java/lang/IllegalStateException" := by
  rw [h_X6_come] at h
  by_cases q1 : (f_X6_requireLength len) = 0
  · rw [if_pos q1] at h
    cases h
    exact .inl rfl
  · rw [if_neg q1] at h
    by_cases q2 : (f_X6_isStay stay) = 0
    · rw [if_pos q2] at h
      cases h
      exact .inl rfl
    · rw [if_neg q2] at h
      by_cases q3 : (f_X4_allCame (xN X)) = 0
      · rw [if_pos q3] at h
        cases h
      · rw [if_neg q3] at h
        cases h
        exact .inr rfl

set_option maxHeartbeats 4000000 in
set_option maxRecDepth 100000 in
theorem c_L_tryCome (l : Launch) (G : GG) (b : Nat) (X : Cx) (len : Int32) (stay : Int32) (hst : l.stackTraces = false) (hO14 : qO (xH X) < 14) (hK14 : qK (xH X) ≤ 14) : vx_Met l yL_tryCome wsL_tryCome ({ frames := 10, cells := 1, slots := 6, locals := 162 }) (PcN G (blk b (b + 170)) [.ref b, .int len, .int stay] (Cb G b X)) (QM (some (.int (pv (h_X6_come X len stay) X).1)) (Cb G b (pv (h_X6_come X len stay) X).2) (blk b (b + 170))) XNo 1 6 (blk b (b + 170)) := by
  have hth : ∀ E, h_X6_come X len stay = .inl E → E = "java/lang/IllegalArgumentException" ∨ E = "java/lang/IllegalStateException" := fun E => th_come X len stay E
  refine metW (cc := cL_tryCome) (maxL := 4) (ret := (some .int)) (hh := [(0, 6, 7, 23), (0, 6, 11, 16)]) (by decide) rfl ?_
  intro p e s m below meth cd hx hb hr hml hown hts hlocks htab hP hO hTh hN
  have hS : va_S (blk b (b + 170)) s.heap s.heap [] := va_S.rf
  have hl := lv_entry ([.ref b, .int len, .int stay]) (n := 4) (Nat.le_of_ble_eq_true rfl)
  rw [lg_entry_eq]
  generalize (lg_sl ([.ref b, .int len, .int stay]) ++ List.replicate (4 - (lg_sl ([.ref b, .int len, .int stay])).length) Slot.unset).toArray = ls at hl ⊢
  have hl : lv_has ls 4 [(0, .ref b), (1, .int len), (2, .int stay)] := hl
  refine lv_aload_n hx hb dL_tryCome_0 rfl (lv_at hl 0 rfl) ?_
  refine lv_iload_n hx hb dL_tryCome_1 rfl (lv_at hl 1 rfl) ?_
  refine lv_iload_n hx hb dL_tryCome_2 rfl (lv_at hl 2 rfl) ?_
  refine cl_xi (xW (A := (blk b (b + 170))) (As := [.int len, .int stay]) (rest := []) ⟨hx, hb, hml, hown, hts⟩ (c_X6_come l G b X len stay hst hO14 hK14) (cwV 2 hts gL_tryCome_X6_come rfl rfl rfl (by decide +kernel) ⟨Nat.le_of_ble_eq_true rfl, Nat.le_of_ble_eq_true rfl⟩) (cb_recv hO hP) hP hO (fun U hU hW => hTh.warm hW hU) rfl hl.1 (Nat.le_of_ble_eq_true rfl) dL_tryCome_3 ⟨Nat.le_of_ble_eq_true rfl, Nat.le_of_ble_eq_true rfl⟩) (fun r X9 H1 L hE hPx hs hk hL => ?_) (fun E ce q9 H1 L hE hs hk hL hce hcv hcl => ?_)
  · have hS := S_app hS hs hk hL (fun q h => h)
    have hw0 : pv (h_X6_come X len stay) X = (r, X9) := by rw [hE]; rfl
    exact vx_ret (W.iret hx hb hr (fun t ht hW => ⟨by rw [hw0], by rw [hw0, ht]; exact hPx, hS.F ht⟩) hS.2.2 dL_tryCome_6)
  · have hS := S_app (fr := (blk b (b + 170))) hS hs (fun q h _ => hk q h) (fun z hz => (hL z hz)) (fun q h => h)
    have hPb : Cb G b X H1 := cb_out (fr := noA) hP (fun q h _ => hk q h) (fun _ _ _ z => z)
    rcases hth E hE with rfl | rfl
    · refine vx_catch (name := "java/lang/IllegalArgumentException") (E := "java/lang/IllegalArgumentException") hown [] ⟨0, 6, 7, 23⟩ [⟨0, 6, 11, 16⟩] htab (fun z hz => absurd hz List.not_mem_nil) (by decide) (by decide) (hts (.classLink RL 23 "java/lang/IllegalArgumentException") (by decide +kernel)) (hTh.w _ (List.mem_of_getElem? (i := 3) rfl)) hce hcv hcl ?_
      refine lv_astore_n (lv' := [(3, .ref q9), (0, .ref b), (1, .int len), (2, .int stay)]) hx hb dL_tryCome_7 rfl hl (by decide) rfl (fun ls hl => ?_)
      refine lv_ldc (v := (-9999002)) hx hb hown (hts (.constant RL 25 (-9999002)) (by decide +kernel)) dL_tryCome_8 ?_
      have hw0 : pv (h_X6_come X len stay) X = (-9999002, X) := by rw [hE]; rfl
      exact vx_ret (W.iret hx hb hr (fun t ht hW => ⟨by rw [hw0], by rw [hw0, ht]; exact hPb, hS.F ht⟩) hS.2.2 dL_tryCome_10)
    · refine vx_catch (name := "java/lang/IllegalStateException") (E := "java/lang/IllegalStateException") hown [⟨0, 6, 7, 23⟩] ⟨0, 6, 11, 16⟩ [] htab (fun z hz => by rw [List.mem_singleton.mp hz]; exact .inr ⟨by decide, "java/lang/IllegalArgumentException", hts (.classLink RL 23 "java/lang/IllegalArgumentException") (by decide +kernel), (hN _ (List.mem_of_getElem? (i := 0) rfl))⟩) (by decide) (by decide) (hts (.classLink RL 16 "java/lang/IllegalStateException") (by decide +kernel)) (hTh.w _ (List.mem_of_getElem? (i := 4) rfl)) hce hcv hcl ?_
      refine lv_astore_n (lv' := [(3, .ref q9), (0, .ref b), (1, .int len), (2, .int stay)]) hx hb dL_tryCome_11 rfl hl (by decide) rfl (fun ls hl => ?_)
      refine lv_ldc (v := (-9999003)) hx hb hown (hts (.constant RL 18 (-9999003)) (by decide +kernel)) dL_tryCome_12 ?_
      have hw0 : pv (h_X6_come X len stay) X = (-9999003, X) := by rw [hE]; rfl
      exact vx_ret (W.iret hx hb hr (fun t ht hW => ⟨by rw [hw0], by rw [hw0, ht]; exact hPb, hS.F ht⟩) hS.2.2 dL_tryCome_14)

theorem th_leave (X : Cx) (c : Int32) (E : String) (h : h_X6_leave X c = .inl E) : E = "java/lang/IndexOutOfBoundsException" ∨ E = "java/lang/IllegalStateException" := by
  rw [h_X6_leave] at h
  by_cases q1 : (f_X6_requireCar X c) = 0
  · rw [if_pos q1] at h
    cases h
    exact .inl rfl
  · rw [if_neg q1] at h
    by_cases q2 : (f_X6_requireParked X c) = 0
    · rw [if_pos q2] at h
      cases h
      exact .inr rfl
    · rw [if_neg q2] at h
      cases h

set_option maxHeartbeats 4000000 in
set_option maxRecDepth 100000 in
theorem c_L_tryLeave (l : Launch) (G : GG) (b : Nat) (X : Cx) (c : Int32) (hst : l.stackTraces = false) (hO14 : qO (xH X) < 14) (hK14 : qK (xH X) ≤ 14) : vx_Met l yL_tryLeave wsL_tryLeave ({ frames := 10, cells := 1, slots := 6, locals := 162 }) (PcN G (blk b (b + 170)) [.ref b, .int c] (Cb G b X)) (QM (some (.int (pv (h_X6_leave X c) X).1)) (Cb G b (pv (h_X6_leave X c) X).2) (blk b (b + 170))) XNo 1 6 (blk b (b + 170)) := by
  have hth : ∀ E, h_X6_leave X c = .inl E → E = "java/lang/IndexOutOfBoundsException" ∨ E = "java/lang/IllegalStateException" := fun E => th_leave X c E
  refine metW (cc := cL_tryLeave) (maxL := 3) (ret := (some .int)) (hh := [(0, 5, 6, 13), (0, 5, 10, 16)]) (by decide) rfl ?_
  intro p e s m below meth cd hx hb hr hml hown hts hlocks htab hP hO hTh hN
  have hS : va_S (blk b (b + 170)) s.heap s.heap [] := va_S.rf
  have hl := lv_entry ([.ref b, .int c]) (n := 3) (Nat.le_of_ble_eq_true rfl)
  rw [lg_entry_eq]
  generalize (lg_sl ([.ref b, .int c]) ++ List.replicate (3 - (lg_sl ([.ref b, .int c])).length) Slot.unset).toArray = ls at hl ⊢
  have hl : lv_has ls 3 [(0, .ref b), (1, .int c)] := hl
  refine lv_aload_n hx hb dL_tryLeave_0 rfl (lv_at hl 0 rfl) ?_
  refine lv_iload_n hx hb dL_tryLeave_1 rfl (lv_at hl 1 rfl) ?_
  refine cl_xi (xW (A := (blk b (b + 170))) (As := [.int c]) (rest := []) ⟨hx, hb, hml, hown, hts⟩ (c_X6_leave l G b X c hst hO14 hK14) (cwV 1 hts gL_tryLeave_X6_leave rfl rfl rfl (by decide +kernel) ⟨Nat.le_of_ble_eq_true rfl, Nat.le_of_ble_eq_true rfl⟩) (cb_recv hO hP) hP hO (fun U hU hW => hTh.warm hW hU) rfl hl.1 (Nat.le_of_ble_eq_true rfl) dL_tryLeave_2 ⟨Nat.le_of_ble_eq_true rfl, Nat.le_of_ble_eq_true rfl⟩) (fun r X9 H1 L hE hPx hs hk hL => ?_) (fun E ce q9 H1 L hE hs hk hL hce hcv hcl => ?_)
  · have hS := S_app hS hs hk hL (fun q h => h)
    have hw0 : pv (h_X6_leave X c) X = (r, X9) := by rw [hE]; rfl
    exact vx_ret (W.iret hx hb hr (fun t ht hW => ⟨by rw [hw0], by rw [hw0, ht]; exact hPx, hS.F ht⟩) hS.2.2 dL_tryLeave_5)
  · have hS := S_app (fr := (blk b (b + 170))) hS hs (fun q h _ => hk q h) (fun z hz => (hL z hz)) (fun q h => h)
    have hPb : Cb G b X H1 := cb_out (fr := noA) hP (fun q h _ => hk q h) (fun _ _ _ z => z)
    rcases hth E hE with rfl | rfl
    · refine vx_catch (name := "java/lang/IndexOutOfBoundsException") (E := "java/lang/IndexOutOfBoundsException") hown [] ⟨0, 5, 6, 13⟩ [⟨0, 5, 10, 16⟩] htab (fun z hz => absurd hz List.not_mem_nil) (by decide) (by decide) (hts (.classLink RL 13 "java/lang/IndexOutOfBoundsException") (by decide +kernel)) (hTh.w _ (List.mem_of_getElem? (i := 5) rfl)) hce hcv hcl ?_
      refine lv_astore_n (lv' := [(2, .ref q9), (0, .ref b), (1, .int c)]) hx hb dL_tryLeave_6 rfl hl (by decide) rfl (fun ls hl => ?_)
      refine lv_ldc (v := (-9999001)) hx hb hown (hts (.constant RL 15 (-9999001)) (by decide +kernel)) dL_tryLeave_7 ?_
      have hw0 : pv (h_X6_leave X c) X = (-9999001, X) := by rw [hE]; rfl
      exact vx_ret (W.iret hx hb hr (fun t ht hW => ⟨by rw [hw0], by rw [hw0, ht]; exact hPb, hS.F ht⟩) hS.2.2 dL_tryLeave_9)
    · refine vx_catch (name := "java/lang/IllegalStateException") (E := "java/lang/IllegalStateException") hown [⟨0, 5, 6, 13⟩] ⟨0, 5, 10, 16⟩ [] htab (fun z hz => by rw [List.mem_singleton.mp hz]; exact .inr ⟨by decide, "java/lang/IndexOutOfBoundsException", hts (.classLink RL 13 "java/lang/IndexOutOfBoundsException") (by decide +kernel), (hN _ (List.mem_of_getElem? (i := 2) rfl))⟩) (by decide) (by decide) (hts (.classLink RL 16 "java/lang/IllegalStateException") (by decide +kernel)) (hTh.w _ (List.mem_of_getElem? (i := 4) rfl)) hce hcv hcl ?_
      refine lv_astore_n (lv' := [(2, .ref q9), (0, .ref b), (1, .int c)]) hx hb dL_tryLeave_10 rfl hl (by decide) rfl (fun ls hl => ?_)
      refine lv_ldc (v := (-9999003)) hx hb hown (hts (.constant RL 18 (-9999003)) (by decide +kernel)) dL_tryLeave_11 ?_
      have hw0 : pv (h_X6_leave X c) X = (-9999003, X) := by rw [hE]; rfl
      exact vx_ret (W.iret hx hb hr (fun t ht hW => ⟨by rw [hw0], by rw [hw0, ht]; exact hPb, hS.F ht⟩) hS.2.2 dL_tryLeave_13)

theorem th_tow (X : Cx) (c : Int32) (E : String) (h : h_X6_tow X c = .inl E) : E = "java/lang/IndexOutOfBoundsException" ∨ E = "java/lang/IllegalStateException" := by
  rw [h_X6_tow] at h
  by_cases q1 : (f_X6_requireCar X c) = 0
  · rw [if_pos q1] at h
    cases h
    exact .inl rfl
  · rw [if_neg q1] at h
    by_cases q2 : (f_X6_requireParked X c) = 0
    · rw [if_pos q2] at h
      cases h
      exact .inr rfl
    · rw [if_neg q2] at h
      cases h

set_option maxHeartbeats 4000000 in
set_option maxRecDepth 100000 in
theorem c_L_tryTow (l : Launch) (G : GG) (b : Nat) (X : Cx) (c : Int32) (hst : l.stackTraces = false) (hO14 : qO (xH X) < 14) (hK14 : qK (xH X) ≤ 14) : vx_Met l yL_tryTow wsL_tryTow ({ frames := 10, cells := 1, slots := 6, locals := 163 }) (PcN G (blk b (b + 170)) [.ref b, .int c] (Cb G b X)) (QM (some (.int (pv (h_X6_tow X c) X).1)) (Cb G b (pv (h_X6_tow X c) X).2) (blk b (b + 170))) XNo 1 6 (blk b (b + 170)) := by
  have hth : ∀ E, h_X6_tow X c = .inl E → E = "java/lang/IndexOutOfBoundsException" ∨ E = "java/lang/IllegalStateException" := fun E => th_tow X c E
  refine metW (cc := cL_tryTow) (maxL := 3) (ret := (some .int)) (hh := [(0, 5, 6, 13), (0, 5, 10, 16)]) (by decide) rfl ?_
  intro p e s m below meth cd hx hb hr hml hown hts hlocks htab hP hO hTh hN
  have hS : va_S (blk b (b + 170)) s.heap s.heap [] := va_S.rf
  have hl := lv_entry ([.ref b, .int c]) (n := 3) (Nat.le_of_ble_eq_true rfl)
  rw [lg_entry_eq]
  generalize (lg_sl ([.ref b, .int c]) ++ List.replicate (3 - (lg_sl ([.ref b, .int c])).length) Slot.unset).toArray = ls at hl ⊢
  have hl : lv_has ls 3 [(0, .ref b), (1, .int c)] := hl
  refine lv_aload_n hx hb dL_tryTow_0 rfl (lv_at hl 0 rfl) ?_
  refine lv_iload_n hx hb dL_tryTow_1 rfl (lv_at hl 1 rfl) ?_
  refine cl_xi (xW (A := (blk b (b + 170))) (As := [.int c]) (rest := []) ⟨hx, hb, hml, hown, hts⟩ (c_X6_tow l G b X c hst hO14 hK14) (cwV 1 hts gL_tryTow_X6_tow rfl rfl rfl (by decide +kernel) ⟨Nat.le_of_ble_eq_true rfl, Nat.le_of_ble_eq_true rfl⟩) (cb_recv hO hP) hP hO (fun U hU hW => hTh.warm hW hU) rfl hl.1 (Nat.le_of_ble_eq_true rfl) dL_tryTow_2 ⟨Nat.le_of_ble_eq_true rfl, Nat.le_of_ble_eq_true rfl⟩) (fun r X9 H1 L hE hPx hs hk hL => ?_) (fun E ce q9 H1 L hE hs hk hL hce hcv hcl => ?_)
  · have hS := S_app hS hs hk hL (fun q h => h)
    have hw0 : pv (h_X6_tow X c) X = (r, X9) := by rw [hE]; rfl
    exact vx_ret (W.iret hx hb hr (fun t ht hW => ⟨by rw [hw0], by rw [hw0, ht]; exact hPx, hS.F ht⟩) hS.2.2 dL_tryTow_5)
  · have hS := S_app (fr := (blk b (b + 170))) hS hs (fun q h _ => hk q h) (fun z hz => (hL z hz)) (fun q h => h)
    have hPb : Cb G b X H1 := cb_out (fr := noA) hP (fun q h _ => hk q h) (fun _ _ _ z => z)
    rcases hth E hE with rfl | rfl
    · refine vx_catch (name := "java/lang/IndexOutOfBoundsException") (E := "java/lang/IndexOutOfBoundsException") hown [] ⟨0, 5, 6, 13⟩ [⟨0, 5, 10, 16⟩] htab (fun z hz => absurd hz List.not_mem_nil) (by decide) (by decide) (hts (.classLink RL 13 "java/lang/IndexOutOfBoundsException") (by decide +kernel)) (hTh.w _ (List.mem_of_getElem? (i := 5) rfl)) hce hcv hcl ?_
      refine lv_astore_n (lv' := [(2, .ref q9), (0, .ref b), (1, .int c)]) hx hb dL_tryTow_6 rfl hl (by decide) rfl (fun ls hl => ?_)
      refine lv_ldc (v := (-9999001)) hx hb hown (hts (.constant RL 15 (-9999001)) (by decide +kernel)) dL_tryTow_7 ?_
      have hw0 : pv (h_X6_tow X c) X = (-9999001, X) := by rw [hE]; rfl
      exact vx_ret (W.iret hx hb hr (fun t ht hW => ⟨by rw [hw0], by rw [hw0, ht]; exact hPb, hS.F ht⟩) hS.2.2 dL_tryTow_9)
    · refine vx_catch (name := "java/lang/IllegalStateException") (E := "java/lang/IllegalStateException") hown [⟨0, 5, 6, 13⟩] ⟨0, 5, 10, 16⟩ [] htab (fun z hz => by rw [List.mem_singleton.mp hz]; exact .inr ⟨by decide, "java/lang/IndexOutOfBoundsException", hts (.classLink RL 13 "java/lang/IndexOutOfBoundsException") (by decide +kernel), (hN _ (List.mem_of_getElem? (i := 2) rfl))⟩) (by decide) (by decide) (hts (.classLink RL 16 "java/lang/IllegalStateException") (by decide +kernel)) (hTh.w _ (List.mem_of_getElem? (i := 4) rfl)) hce hcv hcl ?_
      refine lv_astore_n (lv' := [(2, .ref q9), (0, .ref b), (1, .int c)]) hx hb dL_tryTow_10 rfl hl (by decide) rfl (fun ls hl => ?_)
      refine lv_ldc (v := (-9999003)) hx hb hown (hts (.constant RL 18 (-9999003)) (by decide +kernel)) dL_tryTow_11 ?_
      have hw0 : pv (h_X6_tow X c) X = (-9999003, X) := by rw [hE]; rfl
      exact vx_ret (W.iret hx hb hr (fun t ht hW => ⟨by rw [hw0], by rw [hw0, ht]; exact hPb, hS.F ht⟩) hS.2.2 dL_tryTow_13)

theorem th_move (X : Cx) (c : Int32) (x : Int32) (E : String) (h : h_X6_move X c x = .inl E) : E = "java/lang/IndexOutOfBoundsException" ∨ E = "java/lang/IllegalStateException" := by
  rw [h_X6_move] at h
  by_cases q1 : (f_X6_requireCar X c) = 0
  · rw [if_pos q1] at h
    cases h
    exact .inl rfl
  · rw [if_neg q1] at h
    by_cases q2 : (f_X6_requireCell x) = 0
    · rw [if_pos q2] at h
      cases h
      exact .inl rfl
    · rw [if_neg q2] at h
      by_cases q3 : (f_X4_canShift (xN X) c x) = 0
      · rw [if_pos q3] at h
        cases h
        exact .inr rfl
      · rw [if_neg q3] at h
        cases h

set_option maxHeartbeats 4000000 in
set_option maxRecDepth 100000 in
theorem c_L_tryMove (l : Launch) (G : GG) (b : Nat) (X : Cx) (c : Int32) (x : Int32) (hst : l.stackTraces = false) (hO14 : qO (xH X) < 14) (hK14 : qK (xH X) ≤ 14) : vx_Met l yL_tryMove wsL_tryMove ({ frames := 10, cells := 1, slots := 6, locals := 163 }) (PcN G (blk b (b + 170)) [.ref b, .int c, .int x] (Cb G b X)) (QM (some (.int (pv (h_X6_move X c x) X).1)) (Cb G b (pv (h_X6_move X c x) X).2) (blk b (b + 170))) XNo 1 6 (blk b (b + 170)) := by
  have hth : ∀ E, h_X6_move X c x = .inl E → E = "java/lang/IndexOutOfBoundsException" ∨ E = "java/lang/IllegalStateException" := fun E => th_move X c x E
  refine metW (cc := cL_tryMove) (maxL := 4) (ret := (some .int)) (hh := [(0, 6, 7, 13), (0, 6, 11, 16)]) (by decide) rfl ?_
  intro p e s m below meth cd hx hb hr hml hown hts hlocks htab hP hO hTh hN
  have hS : va_S (blk b (b + 170)) s.heap s.heap [] := va_S.rf
  have hl := lv_entry ([.ref b, .int c, .int x]) (n := 4) (Nat.le_of_ble_eq_true rfl)
  rw [lg_entry_eq]
  generalize (lg_sl ([.ref b, .int c, .int x]) ++ List.replicate (4 - (lg_sl ([.ref b, .int c, .int x])).length) Slot.unset).toArray = ls at hl ⊢
  have hl : lv_has ls 4 [(0, .ref b), (1, .int c), (2, .int x)] := hl
  refine lv_aload_n hx hb dL_tryMove_0 rfl (lv_at hl 0 rfl) ?_
  refine lv_iload_n hx hb dL_tryMove_1 rfl (lv_at hl 1 rfl) ?_
  refine lv_iload_n hx hb dL_tryMove_2 rfl (lv_at hl 2 rfl) ?_
  refine cl_xi (xW (A := (blk b (b + 170))) (As := [.int c, .int x]) (rest := []) ⟨hx, hb, hml, hown, hts⟩ (c_X6_move l G b X c x hst hO14 hK14) (cwV 2 hts gL_tryMove_X6_move rfl rfl rfl (by decide +kernel) ⟨Nat.le_of_ble_eq_true rfl, Nat.le_of_ble_eq_true rfl⟩) (cb_recv hO hP) hP hO (fun U hU hW => hTh.warm hW hU) rfl hl.1 (Nat.le_of_ble_eq_true rfl) dL_tryMove_3 ⟨Nat.le_of_ble_eq_true rfl, Nat.le_of_ble_eq_true rfl⟩) (fun r X9 H1 L hE hPx hs hk hL => ?_) (fun E ce q9 H1 L hE hs hk hL hce hcv hcl => ?_)
  · have hS := S_app hS hs hk hL (fun q h => h)
    have hw0 : pv (h_X6_move X c x) X = (r, X9) := by rw [hE]; rfl
    exact vx_ret (W.iret hx hb hr (fun t ht hW => ⟨by rw [hw0], by rw [hw0, ht]; exact hPx, hS.F ht⟩) hS.2.2 dL_tryMove_6)
  · have hS := S_app (fr := (blk b (b + 170))) hS hs (fun q h _ => hk q h) (fun z hz => (hL z hz)) (fun q h => h)
    have hPb : Cb G b X H1 := cb_out (fr := noA) hP (fun q h _ => hk q h) (fun _ _ _ z => z)
    rcases hth E hE with rfl | rfl
    · refine vx_catch (name := "java/lang/IndexOutOfBoundsException") (E := "java/lang/IndexOutOfBoundsException") hown [] ⟨0, 6, 7, 13⟩ [⟨0, 6, 11, 16⟩] htab (fun z hz => absurd hz List.not_mem_nil) (by decide) (by decide) (hts (.classLink RL 13 "java/lang/IndexOutOfBoundsException") (by decide +kernel)) (hTh.w _ (List.mem_of_getElem? (i := 5) rfl)) hce hcv hcl ?_
      refine lv_astore_n (lv' := [(3, .ref q9), (0, .ref b), (1, .int c), (2, .int x)]) hx hb dL_tryMove_7 rfl hl (by decide) rfl (fun ls hl => ?_)
      refine lv_ldc (v := (-9999001)) hx hb hown (hts (.constant RL 15 (-9999001)) (by decide +kernel)) dL_tryMove_8 ?_
      have hw0 : pv (h_X6_move X c x) X = (-9999001, X) := by rw [hE]; rfl
      exact vx_ret (W.iret hx hb hr (fun t ht hW => ⟨by rw [hw0], by rw [hw0, ht]; exact hPb, hS.F ht⟩) hS.2.2 dL_tryMove_10)
    · refine vx_catch (name := "java/lang/IllegalStateException") (E := "java/lang/IllegalStateException") hown [⟨0, 6, 7, 13⟩] ⟨0, 6, 11, 16⟩ [] htab (fun z hz => by rw [List.mem_singleton.mp hz]; exact .inr ⟨by decide, "java/lang/IndexOutOfBoundsException", hts (.classLink RL 13 "java/lang/IndexOutOfBoundsException") (by decide +kernel), (hN _ (List.mem_of_getElem? (i := 2) rfl))⟩) (by decide) (by decide) (hts (.classLink RL 16 "java/lang/IllegalStateException") (by decide +kernel)) (hTh.w _ (List.mem_of_getElem? (i := 4) rfl)) hce hcv hcl ?_
      refine lv_astore_n (lv' := [(3, .ref q9), (0, .ref b), (1, .int c), (2, .int x)]) hx hb dL_tryMove_11 rfl hl (by decide) rfl (fun ls hl => ?_)
      refine lv_ldc (v := (-9999003)) hx hb hown (hts (.constant RL 18 (-9999003)) (by decide +kernel)) dL_tryMove_12 ?_
      have hw0 : pv (h_X6_move X c x) X = (-9999003, X) := by rw [hE]; rfl
      exact vx_ret (W.iret hx hb hr (fun t ht hW => ⟨by rw [hw0], by rw [hw0, ht]; exact hPb, hS.F ht⟩) hS.2.2 dL_tryMove_14)

theorem th_minutes (X : Cx) (mi : Int32) (E : String) (h : h_X6_minutes X mi = .inl E) : E = "java/lang/IllegalArgumentException" := by
  rw [h_X6_minutes] at h
  by_cases q1 : (f_X6_isMinutes mi) = 0
  · rw [if_pos q1] at h
    cases h
    exact rfl
  · rw [if_neg q1] at h
    cases h

set_option maxHeartbeats 4000000 in
set_option maxRecDepth 100000 in
theorem c_L_tryMinutes (l : Launch) (G : GG) (b : Nat) (X : Cx) (mi : Int32) (hst : l.stackTraces = false) (hO14 : qO (xH X) < 14) (hK14 : qK (xH X) ≤ 14) : vx_Met l yL_tryMinutes wsL_tryMinutes ({ frames := 9, cells := 1, slots := 6, locals := 141 }) (PcN G (blk b (b + 170)) [.ref b, .int mi] (Cb G b X)) (QM (some (.int (pv (h_X6_minutes X mi) X).1)) (Cb G b (pv (h_X6_minutes X mi) X).2) (blk b (b + 170))) XNo 1 6 (blk b (b + 170)) := by
  have hth : ∀ E, h_X6_minutes X mi = .inl E → E = "java/lang/IllegalArgumentException" := fun E => th_minutes X mi E
  refine metW (cc := cL_tryMinutes) (maxL := 3) (ret := (some .int)) (hh := [(0, 5, 6, 23)]) (by decide) rfl ?_
  intro p e s m below meth cd hx hb hr hml hown hts hlocks htab hP hO hTh hN
  have hS : va_S (blk b (b + 170)) s.heap s.heap [] := va_S.rf
  have hl := lv_entry ([.ref b, .int mi]) (n := 3) (Nat.le_of_ble_eq_true rfl)
  rw [lg_entry_eq]
  generalize (lg_sl ([.ref b, .int mi]) ++ List.replicate (3 - (lg_sl ([.ref b, .int mi])).length) Slot.unset).toArray = ls at hl ⊢
  have hl : lv_has ls 3 [(0, .ref b), (1, .int mi)] := hl
  refine lv_aload_n hx hb dL_tryMinutes_0 rfl (lv_at hl 0 rfl) ?_
  refine lv_iload_n hx hb dL_tryMinutes_1 rfl (lv_at hl 1 rfl) ?_
  refine cl_xi (xW (A := (blk b (b + 170))) (As := [.int mi]) (rest := []) ⟨hx, hb, hml, hown, hts⟩ (c_X6_minutes l G b X mi hst hO14 hK14) (cwV 1 hts gL_tryMinutes_X6_minutes rfl rfl rfl (by decide +kernel) ⟨Nat.le_of_ble_eq_true rfl, Nat.le_of_ble_eq_true rfl⟩) (cb_recv hO hP) hP hO (fun U hU hW => hTh.warm hW hU) rfl hl.1 (Nat.le_of_ble_eq_true rfl) dL_tryMinutes_2 ⟨Nat.le_of_ble_eq_true rfl, Nat.le_of_ble_eq_true rfl⟩) (fun r X9 H1 L hE hPx hs hk hL => ?_) (fun E ce q9 H1 L hE hs hk hL hce hcv hcl => ?_)
  · have hS := S_app hS hs hk hL (fun q h => h)
    have hw0 : pv (h_X6_minutes X mi) X = (r, X9) := by rw [hE]; rfl
    exact vx_ret (W.iret hx hb hr (fun t ht hW => ⟨by rw [hw0], by rw [hw0, ht]; exact hPx, hS.F ht⟩) hS.2.2 dL_tryMinutes_5)
  · have hS := S_app (fr := (blk b (b + 170))) hS hs (fun q h _ => hk q h) (fun z hz => (hL z hz)) (fun q h => h)
    have hPb : Cb G b X H1 := cb_out (fr := noA) hP (fun q h _ => hk q h) (fun _ _ _ z => z)
    obtain rfl := hth E hE
    refine vx_catch (name := "java/lang/IllegalArgumentException") (E := "java/lang/IllegalArgumentException") hown [] ⟨0, 5, 6, 23⟩ [] htab (fun z hz => absurd hz List.not_mem_nil) (by decide) (by decide) (hts (.classLink RL 23 "java/lang/IllegalArgumentException") (by decide +kernel)) (hTh.w _ (List.mem_of_getElem? (i := 3) rfl)) hce hcv hcl ?_
    refine lv_astore_n (lv' := [(2, .ref q9), (0, .ref b), (1, .int mi)]) hx hb dL_tryMinutes_6 rfl hl (by decide) rfl (fun ls hl => ?_)
    refine lv_ldc (v := (-9999002)) hx hb hown (hts (.constant RL 25 (-9999002)) (by decide +kernel)) dL_tryMinutes_7 ?_
    have hw0 : pv (h_X6_minutes X mi) X = (-9999002, X) := by rw [hE]; rfl
    exact vx_ret (W.iret hx hb hr (fun t ht hW => ⟨by rw [hw0], by rw [hw0, ht]; exact hPb, hS.F ht⟩) hS.2.2 dL_tryMinutes_9)

theorem th_set (X : Cx) (w : Int32) (v : Int32) (E : String) (h : h_X6_set X w v = .inl E) : E = "java/lang/IllegalArgumentException" := by
  rw [h_X6_set] at h
  by_cases q1 : (f_X6_isSettingValue w v) = 0
  · rw [if_pos q1] at h
    cases h
    exact rfl
  · rw [if_neg q1] at h
    cases h

set_option maxHeartbeats 4000000 in
set_option maxRecDepth 100000 in
theorem c_L_tryLay (l : Launch) (G : GG) (b : Nat) (X : Cx) (w : Int32) (v : Int32) (hst : l.stackTraces = false) (hO14 : qO (xH X) < 14) (hK14 : qK (xH X) ≤ 14) : vx_Met l yL_tryLay wsL_tryLay ({ frames := 9, cells := 1, slots := 6, locals := 142 }) (PcN G (blk b (b + 170)) [.ref b, .int w, .int v] (Cb G b X)) (QM (some (.int (pv (h_X6_set X w v) X).1)) (Cb G b (pv (h_X6_set X w v) X).2) (blk b (b + 170))) XNo 1 6 (blk b (b + 170)) := by
  have hth : ∀ E, h_X6_set X w v = .inl E → E = "java/lang/IllegalArgumentException" := fun E => th_set X w v E
  refine metW (cc := cL_tryLay) (maxL := 4) (ret := (some .int)) (hh := [(0, 6, 7, 23)]) (by decide) rfl ?_
  intro p e s m below meth cd hx hb hr hml hown hts hlocks htab hP hO hTh hN
  have hS : va_S (blk b (b + 170)) s.heap s.heap [] := va_S.rf
  have hl := lv_entry ([.ref b, .int w, .int v]) (n := 4) (Nat.le_of_ble_eq_true rfl)
  rw [lg_entry_eq]
  generalize (lg_sl ([.ref b, .int w, .int v]) ++ List.replicate (4 - (lg_sl ([.ref b, .int w, .int v])).length) Slot.unset).toArray = ls at hl ⊢
  have hl : lv_has ls 4 [(0, .ref b), (1, .int w), (2, .int v)] := hl
  refine lv_aload_n hx hb dL_tryLay_0 rfl (lv_at hl 0 rfl) ?_
  refine lv_iload_n hx hb dL_tryLay_1 rfl (lv_at hl 1 rfl) ?_
  refine lv_iload_n hx hb dL_tryLay_2 rfl (lv_at hl 2 rfl) ?_
  refine cl_xi (xW (A := (blk b (b + 170))) (As := [.int w, .int v]) (rest := []) ⟨hx, hb, hml, hown, hts⟩ (c_X6_set l G b X w v hst hO14 hK14) (cwV 2 hts gL_tryLay_X6_set rfl rfl rfl (by decide +kernel) ⟨Nat.le_of_ble_eq_true rfl, Nat.le_of_ble_eq_true rfl⟩) (cb_recv hO hP) hP hO (fun U hU hW => hTh.warm hW hU) rfl hl.1 (Nat.le_of_ble_eq_true rfl) dL_tryLay_3 ⟨Nat.le_of_ble_eq_true rfl, Nat.le_of_ble_eq_true rfl⟩) (fun r X9 H1 L hE hPx hs hk hL => ?_) (fun E ce q9 H1 L hE hs hk hL hce hcv hcl => ?_)
  · have hS := S_app hS hs hk hL (fun q h => h)
    have hw0 : pv (h_X6_set X w v) X = (r, X9) := by rw [hE]; rfl
    exact vx_ret (W.iret hx hb hr (fun t ht hW => ⟨by rw [hw0], by rw [hw0, ht]; exact hPx, hS.F ht⟩) hS.2.2 dL_tryLay_6)
  · have hS := S_app (fr := (blk b (b + 170))) hS hs (fun q h _ => hk q h) (fun z hz => (hL z hz)) (fun q h => h)
    have hPb : Cb G b X H1 := cb_out (fr := noA) hP (fun q h _ => hk q h) (fun _ _ _ z => z)
    obtain rfl := hth E hE
    refine vx_catch (name := "java/lang/IllegalArgumentException") (E := "java/lang/IllegalArgumentException") hown [] ⟨0, 6, 7, 23⟩ [] htab (fun z hz => absurd hz List.not_mem_nil) (by decide) (by decide) (hts (.classLink RL 23 "java/lang/IllegalArgumentException") (by decide +kernel)) (hTh.w _ (List.mem_of_getElem? (i := 3) rfl)) hce hcv hcl ?_
    refine lv_astore_n (lv' := [(3, .ref q9), (0, .ref b), (1, .int w), (2, .int v)]) hx hb dL_tryLay_7 rfl hl (by decide) rfl (fun ls hl => ?_)
    refine lv_ldc (v := (-9999002)) hx hb hown (hts (.constant RL 25 (-9999002)) (by decide +kernel)) dL_tryLay_8 ?_
    have hw0 : pv (h_X6_set X w v) X = (-9999002, X) := by rw [hE]; rfl
    exact vx_ret (W.iret hx hb hr (fun t ht hW => ⟨by rw [hw0], by rw [hw0, ht]; exact hPb, hS.F ht⟩) hS.2.2 dL_tryLay_10)

theorem th_undo (X : Cx) (E : String) (h : h_X6_undo X = .inl E) : E = "java/lang/IllegalStateException" := by
  rw [h_X6_undo] at h
  by_cases q1 : (f_X0_isEmpty (xH X)) = 0
  · rw [if_pos q1] at h
    cases h
  · rw [if_neg q1] at h
    cases h
    exact rfl

set_option maxHeartbeats 4000000 in
set_option maxRecDepth 100000 in
theorem c_L_tryUndo (l : Launch) (G : GG) (b : Nat) (X : Cx) (hst : l.stackTraces = false) (hO14 : qO (xH X) < 14) (hK14 : qK (xH X) ≤ 14) : vx_Met l yL_tryUndo wsL_tryUndo ({ frames := 9, cells := 1, slots := 6, locals := 140 }) (PcN G (blk b (b + 170)) [.ref b] (Cb G b X)) (QM (some (.int (pv (h_X6_undo X) X).1)) (Cb G b (pv (h_X6_undo X) X).2) (blk b (b + 170))) XNo 1 6 (blk b (b + 170)) := by
  have hth : ∀ E, h_X6_undo X = .inl E → E = "java/lang/IllegalStateException" := fun E => th_undo X E
  refine metW (cc := cL_tryUndo) (maxL := 2) (ret := (some .int)) (hh := [(0, 4, 5, 16)]) (by decide) rfl ?_
  intro p e s m below meth cd hx hb hr hml hown hts hlocks htab hP hO hTh hN
  have hS : va_S (blk b (b + 170)) s.heap s.heap [] := va_S.rf
  have hl := lv_entry ([.ref b]) (n := 2) (Nat.le_of_ble_eq_true rfl)
  rw [lg_entry_eq]
  generalize (lg_sl ([.ref b]) ++ List.replicate (2 - (lg_sl ([.ref b])).length) Slot.unset).toArray = ls at hl ⊢
  have hl : lv_has ls 2 [(0, .ref b)] := hl
  refine lv_aload_n hx hb dL_tryUndo_0 rfl (lv_at hl 0 rfl) ?_
  refine cl_xi (xW (A := (blk b (b + 170))) (As := []) (rest := []) ⟨hx, hb, hml, hown, hts⟩ (c_X6_undo l G b X hst hO14 hK14) (cwV 0 hts gL_tryUndo_X6_undo rfl rfl rfl (by decide +kernel) ⟨Nat.le_of_ble_eq_true rfl, Nat.le_of_ble_eq_true rfl⟩) (cb_recv hO hP) hP hO (fun U hU hW => hTh.warm hW hU) rfl hl.1 (Nat.le_of_ble_eq_true rfl) dL_tryUndo_1 ⟨Nat.le_of_ble_eq_true rfl, Nat.le_of_ble_eq_true rfl⟩) (fun r X9 H1 L hE hPx hs hk hL => ?_) (fun E ce q9 H1 L hE hs hk hL hce hcv hcl => ?_)
  · have hS := S_app hS hs hk hL (fun q h => h)
    have hw0 : pv (h_X6_undo X) X = (r, X9) := by rw [hE]; rfl
    exact vx_ret (W.iret hx hb hr (fun t ht hW => ⟨by rw [hw0], by rw [hw0, ht]; exact hPx, hS.F ht⟩) hS.2.2 dL_tryUndo_4)
  · have hS := S_app (fr := (blk b (b + 170))) hS hs (fun q h _ => hk q h) (fun z hz => (hL z hz)) (fun q h => h)
    have hPb : Cb G b X H1 := cb_out (fr := noA) hP (fun q h _ => hk q h) (fun _ _ _ z => z)
    obtain rfl := hth E hE
    refine vx_catch (name := "java/lang/IllegalStateException") (E := "java/lang/IllegalStateException") hown [] ⟨0, 4, 5, 16⟩ [] htab (fun z hz => absurd hz List.not_mem_nil) (by decide) (by decide) (hts (.classLink RL 16 "java/lang/IllegalStateException") (by decide +kernel)) (hTh.w _ (List.mem_of_getElem? (i := 4) rfl)) hce hcv hcl ?_
    refine lv_astore_n (lv' := [(1, .ref q9), (0, .ref b)]) hx hb dL_tryUndo_5 rfl hl (by decide) rfl (fun ls hl => ?_)
    refine lv_ldc (v := (-9999003)) hx hb hown (hts (.constant RL 18 (-9999003)) (by decide +kernel)) dL_tryUndo_6 ?_
    have hw0 : pv (h_X6_undo X) X = (-9999003, X) := by rw [hE]; rfl
    exact vx_ret (W.iret hx hb hr (fun t ht hW => ⟨by rw [hw0], by rw [hw0, ht]; exact hPb, hS.F ht⟩) hS.2.2 dL_tryUndo_8)

theorem th_why (X : Cx) (len : Int32) (E : String) (h : h_X6_why X len = .inl E) : E = "java/lang/IllegalArgumentException" := by
  rw [h_X6_why] at h
  by_cases q1 : (f_X6_requireLength len) = 0
  · rw [if_pos q1] at h
    cases h
    exact rfl
  · rw [if_neg q1] at h
    cases h

set_option maxHeartbeats 4000000 in
set_option maxRecDepth 100000 in
theorem c_L_tryWhy (l : Launch) (G : GG) (b : Nat) (X : Cx) (len : Int32) (hst : l.stackTraces = false) : vx_Met l yL_tryWhy wsL_tryWhy ({ frames := 10, cells := 1, slots := 6, locals := 161 }) (PcN G (blk b (b + 170)) [.ref b, .int len] (Cb G b X)) (QM (some (.int (pv (h_X6_why X len) X).1)) (Cb G b (pv (h_X6_why X len) X).2) (blk b (b + 170))) XNo 1 6 (blk b (b + 170)) := by
  have hth : ∀ E, h_X6_why X len = .inl E → E = "java/lang/IllegalArgumentException" := fun E => th_why X len E
  refine metW (cc := cL_tryWhy) (maxL := 3) (ret := (some .int)) (hh := [(0, 5, 6, 23)]) (by decide) rfl ?_
  intro p e s m below meth cd hx hb hr hml hown hts hlocks htab hP hO hTh hN
  have hS : va_S (blk b (b + 170)) s.heap s.heap [] := va_S.rf
  have hl := lv_entry ([.ref b, .int len]) (n := 3) (Nat.le_of_ble_eq_true rfl)
  rw [lg_entry_eq]
  generalize (lg_sl ([.ref b, .int len]) ++ List.replicate (3 - (lg_sl ([.ref b, .int len])).length) Slot.unset).toArray = ls at hl ⊢
  have hl : lv_has ls 3 [(0, .ref b), (1, .int len)] := hl
  refine lv_aload_n hx hb dL_tryWhy_0 rfl (lv_at hl 0 rfl) ?_
  refine lv_iload_n hx hb dL_tryWhy_1 rfl (lv_at hl 1 rfl) ?_
  refine cl_xi (xW (A := (blk b (b + 170))) (As := [.int len]) (rest := []) ⟨hx, hb, hml, hown, hts⟩ (c_X6_why l G b X len hst) (cwV 1 hts gL_tryWhy_X6_why rfl rfl rfl (by decide +kernel) ⟨Nat.le_of_ble_eq_true rfl, Nat.le_of_ble_eq_true rfl⟩) (cb_recv hO hP) hP hO (fun U hU hW => hTh.warm hW hU) rfl hl.1 (Nat.le_of_ble_eq_true rfl) dL_tryWhy_2 ⟨Nat.le_of_ble_eq_true rfl, Nat.le_of_ble_eq_true rfl⟩) (fun r X9 H1 L hE hPx hs hk hL => ?_) (fun E ce q9 H1 L hE hs hk hL hce hcv hcl => ?_)
  · have hS := S_app hS hs hk hL (fun q h => h)
    have hw0 : pv (h_X6_why X len) X = (r, X9) := by rw [hE]; rfl
    exact vx_ret (W.iret hx hb hr (fun t ht hW => ⟨by rw [hw0], by rw [hw0, ht]; exact hPx, hS.F ht⟩) hS.2.2 dL_tryWhy_5)
  · have hS := S_app (fr := (blk b (b + 170))) hS hs (fun q h _ => hk q h) (fun z hz => (hL z hz)) (fun q h => h)
    have hPb : Cb G b X H1 := cb_out (fr := noA) hP (fun q h _ => hk q h) (fun _ _ _ z => z)
    obtain rfl := hth E hE
    refine vx_catch (name := "java/lang/IllegalArgumentException") (E := "java/lang/IllegalArgumentException") hown [] ⟨0, 5, 6, 23⟩ [] htab (fun z hz => absurd hz List.not_mem_nil) (by decide) (by decide) (hts (.classLink RL 23 "java/lang/IllegalArgumentException") (by decide +kernel)) (hTh.w _ (List.mem_of_getElem? (i := 3) rfl)) hce hcv hcl ?_
    refine lv_astore_n (lv' := [(2, .ref q9), (0, .ref b), (1, .int len)]) hx hb dL_tryWhy_6 rfl hl (by decide) rfl (fun ls hl => ?_)
    refine lv_ldc (v := (-9999002)) hx hb hown (hts (.constant RL 25 (-9999002)) (by decide +kernel)) dL_tryWhy_7 ?_
    have hw0 : pv (h_X6_why X len) X = (-9999002, X) := by rw [hE]; rfl
    exact vx_ret (W.iret hx hb hr (fun t ht hW => ⟨by rw [hw0], by rw [hw0, ht]; exact hPb, hS.F ht⟩) hS.2.2 dL_tryWhy_9)

theorem th_place (X : Cx) (len : Int32) (E : String) (h : h_X6_place X len = .inl E) : E = "java/lang/IllegalArgumentException" := by
  rw [h_X6_place] at h
  by_cases q1 : (f_X6_requireLength len) = 0
  · rw [if_pos q1] at h
    cases h
    exact rfl
  · rw [if_neg q1] at h
    cases h

set_option maxHeartbeats 4000000 in
set_option maxRecDepth 100000 in
theorem c_L_tryPlace (l : Launch) (G : GG) (b : Nat) (X : Cx) (len : Int32) (hst : l.stackTraces = false) : vx_Met l yL_tryPlace wsL_tryPlace ({ frames := 10, cells := 1, slots := 6, locals := 161 }) (PcN G (blk b (b + 170)) [.ref b, .int len] (Cb G b X)) (QM (some (.int (pv (h_X6_place X len) X).1)) (Cb G b (pv (h_X6_place X len) X).2) (blk b (b + 170))) XNo 1 6 (blk b (b + 170)) := by
  have hth : ∀ E, h_X6_place X len = .inl E → E = "java/lang/IllegalArgumentException" := fun E => th_place X len E
  refine metW (cc := cL_tryPlace) (maxL := 3) (ret := (some .int)) (hh := [(0, 5, 6, 23)]) (by decide) rfl ?_
  intro p e s m below meth cd hx hb hr hml hown hts hlocks htab hP hO hTh hN
  have hS : va_S (blk b (b + 170)) s.heap s.heap [] := va_S.rf
  have hl := lv_entry ([.ref b, .int len]) (n := 3) (Nat.le_of_ble_eq_true rfl)
  rw [lg_entry_eq]
  generalize (lg_sl ([.ref b, .int len]) ++ List.replicate (3 - (lg_sl ([.ref b, .int len])).length) Slot.unset).toArray = ls at hl ⊢
  have hl : lv_has ls 3 [(0, .ref b), (1, .int len)] := hl
  refine lv_aload_n hx hb dL_tryPlace_0 rfl (lv_at hl 0 rfl) ?_
  refine lv_iload_n hx hb dL_tryPlace_1 rfl (lv_at hl 1 rfl) ?_
  refine cl_xi (xW (A := (blk b (b + 170))) (As := [.int len]) (rest := []) ⟨hx, hb, hml, hown, hts⟩ (c_X6_place l G b X len hst) (cwV 1 hts gL_tryPlace_X6_place rfl rfl rfl (by decide +kernel) ⟨Nat.le_of_ble_eq_true rfl, Nat.le_of_ble_eq_true rfl⟩) (cb_recv hO hP) hP hO (fun U hU hW => hTh.warm hW hU) rfl hl.1 (Nat.le_of_ble_eq_true rfl) dL_tryPlace_2 ⟨Nat.le_of_ble_eq_true rfl, Nat.le_of_ble_eq_true rfl⟩) (fun r X9 H1 L hE hPx hs hk hL => ?_) (fun E ce q9 H1 L hE hs hk hL hce hcv hcl => ?_)
  · have hS := S_app hS hs hk hL (fun q h => h)
    have hw0 : pv (h_X6_place X len) X = (r, X9) := by rw [hE]; rfl
    exact vx_ret (W.iret hx hb hr (fun t ht hW => ⟨by rw [hw0], by rw [hw0, ht]; exact hPx, hS.F ht⟩) hS.2.2 dL_tryPlace_5)
  · have hS := S_app (fr := (blk b (b + 170))) hS hs (fun q h _ => hk q h) (fun z hz => (hL z hz)) (fun q h => h)
    have hPb : Cb G b X H1 := cb_out (fr := noA) hP (fun q h _ => hk q h) (fun _ _ _ z => z)
    obtain rfl := hth E hE
    refine vx_catch (name := "java/lang/IllegalArgumentException") (E := "java/lang/IllegalArgumentException") hown [] ⟨0, 5, 6, 23⟩ [] htab (fun z hz => absurd hz List.not_mem_nil) (by decide) (by decide) (hts (.classLink RL 23 "java/lang/IllegalArgumentException") (by decide +kernel)) (hTh.w _ (List.mem_of_getElem? (i := 3) rfl)) hce hcv hcl ?_
    refine lv_astore_n (lv' := [(2, .ref q9), (0, .ref b), (1, .int len)]) hx hb dL_tryPlace_6 rfl hl (by decide) rfl (fun ls hl => ?_)
    refine lv_ldc (v := (-9999002)) hx hb hown (hts (.constant RL 25 (-9999002)) (by decide +kernel)) dL_tryPlace_7 ?_
    have hw0 : pv (h_X6_place X len) X = (-9999002, X) := by rw [hE]; rfl
    exact vx_ret (W.iret hx hb hr (fun t ht hW => ⟨by rw [hw0], by rw [hw0, ht]; exact hPb, hS.F ht⟩) hS.2.2 dL_tryPlace_9)

theorem th_fits (X : Cx) (len : Int32) (way : Int32) (E : String) (h : h_X6_fits X len way = .inl E) : E = "java/lang/IllegalArgumentException" := by
  rw [h_X6_fits] at h
  by_cases q1 : (f_X6_requireLength len) = 0
  · rw [if_pos q1] at h
    cases h
    exact rfl
  · rw [if_neg q1] at h
    by_cases q2 : (f_X6_requireZeroOrOne way) = 0
    · rw [if_pos q2] at h
      cases h
      exact rfl
    · rw [if_neg q2] at h
      by_cases q3 : way = 1
      · rw [if_pos q3] at h
        cases h
      · rw [if_neg q3] at h
        cases h

set_option maxHeartbeats 4000000 in
set_option maxRecDepth 100000 in
theorem c_L_tryFits (l : Launch) (G : GG) (b : Nat) (X : Cx) (len : Int32) (way : Int32) (hst : l.stackTraces = false) : vx_Met l yL_tryFits wsL_tryFits ({ frames := 10, cells := 1, slots := 6, locals := 162 }) (PcN G (blk b (b + 170)) [.ref b, .int len, .int way] (Cb G b X)) (QM (some (.int (pv (h_X6_fits X len way) X).1)) (Cb G b (pv (h_X6_fits X len way) X).2) (blk b (b + 170))) XNo 1 6 (blk b (b + 170)) := by
  have hth : ∀ E, h_X6_fits X len way = .inl E → E = "java/lang/IllegalArgumentException" := fun E => th_fits X len way E
  refine metW (cc := cL_tryFits) (maxL := 4) (ret := (some .int)) (hh := [(0, 6, 7, 23)]) (by decide) rfl ?_
  intro p e s m below meth cd hx hb hr hml hown hts hlocks htab hP hO hTh hN
  have hS : va_S (blk b (b + 170)) s.heap s.heap [] := va_S.rf
  have hl := lv_entry ([.ref b, .int len, .int way]) (n := 4) (Nat.le_of_ble_eq_true rfl)
  rw [lg_entry_eq]
  generalize (lg_sl ([.ref b, .int len, .int way]) ++ List.replicate (4 - (lg_sl ([.ref b, .int len, .int way])).length) Slot.unset).toArray = ls at hl ⊢
  have hl : lv_has ls 4 [(0, .ref b), (1, .int len), (2, .int way)] := hl
  refine lv_aload_n hx hb dL_tryFits_0 rfl (lv_at hl 0 rfl) ?_
  refine lv_iload_n hx hb dL_tryFits_1 rfl (lv_at hl 1 rfl) ?_
  refine lv_iload_n hx hb dL_tryFits_2 rfl (lv_at hl 2 rfl) ?_
  refine cl_xi (xW (A := (blk b (b + 170))) (As := [.int len, .int way]) (rest := []) ⟨hx, hb, hml, hown, hts⟩ (c_X6_fits l G b X len way hst) (cwV 2 hts gL_tryFits_X6_fits rfl rfl rfl (by decide +kernel) ⟨Nat.le_of_ble_eq_true rfl, Nat.le_of_ble_eq_true rfl⟩) (cb_recv hO hP) hP hO (fun U hU hW => hTh.warm hW hU) rfl hl.1 (Nat.le_of_ble_eq_true rfl) dL_tryFits_3 ⟨Nat.le_of_ble_eq_true rfl, Nat.le_of_ble_eq_true rfl⟩) (fun r X9 H1 L hE hPx hs hk hL => ?_) (fun E ce q9 H1 L hE hs hk hL hce hcv hcl => ?_)
  · have hS := S_app hS hs hk hL (fun q h => h)
    have hw0 : pv (h_X6_fits X len way) X = (r, X9) := by rw [hE]; rfl
    exact vx_ret (W.iret hx hb hr (fun t ht hW => ⟨by rw [hw0], by rw [hw0, ht]; exact hPx, hS.F ht⟩) hS.2.2 dL_tryFits_6)
  · have hS := S_app (fr := (blk b (b + 170))) hS hs (fun q h _ => hk q h) (fun z hz => (hL z hz)) (fun q h => h)
    have hPb : Cb G b X H1 := cb_out (fr := noA) hP (fun q h _ => hk q h) (fun _ _ _ z => z)
    obtain rfl := hth E hE
    refine vx_catch (name := "java/lang/IllegalArgumentException") (E := "java/lang/IllegalArgumentException") hown [] ⟨0, 6, 7, 23⟩ [] htab (fun z hz => absurd hz List.not_mem_nil) (by decide) (by decide) (hts (.classLink RL 23 "java/lang/IllegalArgumentException") (by decide +kernel)) (hTh.w _ (List.mem_of_getElem? (i := 3) rfl)) hce hcv hcl ?_
    refine lv_astore_n (lv' := [(3, .ref q9), (0, .ref b), (1, .int len), (2, .int way)]) hx hb dL_tryFits_7 rfl hl (by decide) rfl (fun ls hl => ?_)
    refine lv_ldc (v := (-9999002)) hx hb hown (hts (.constant RL 25 (-9999002)) (by decide +kernel)) dL_tryFits_8 ?_
    have hw0 : pv (h_X6_fits X len way) X = (-9999002, X) := by rw [hE]; rfl
    exact vx_ret (W.iret hx hb hr (fun t ht hW => ⟨by rw [hw0], by rw [hw0, ht]; exact hPb, hS.F ht⟩) hS.2.2 dL_tryFits_10)

theorem th_gapIn (X : Cx) (len : Int32) (E : String) (h : h_X6_gapIn X len = .inl E) : E = "java/lang/IllegalArgumentException" := by
  rw [h_X6_gapIn] at h
  by_cases q1 : (f_X6_requireLength len) = 0
  · rw [if_pos q1] at h
    cases h
    exact rfl
  · rw [if_neg q1] at h
    exact absurd h (ni_lp_xGapIn _ _ _ _)

set_option maxHeartbeats 4000000 in
set_option maxRecDepth 100000 in
theorem c_L_tryWhen (l : Launch) (G : GG) (b : Nat) (X : Cx) (len : Int32) (hst : l.stackTraces = false) : vx_Met l yL_tryWhen wsL_tryWhen ({ frames := 10, cells := 1, slots := 6, locals := 162 }) (PcN G (blk b (b + 170)) [.ref b, .int len] (Cb G b X)) (QM (some (.int (pv (h_X6_gapIn X len) X).1)) (Cb G b (pv (h_X6_gapIn X len) X).2) (blk b (b + 170))) XNo 1 6 (blk b (b + 170)) := by
  have hth : ∀ E, h_X6_gapIn X len = .inl E → E = "java/lang/IllegalArgumentException" := fun E => th_gapIn X len E
  refine metW (cc := cL_tryWhen) (maxL := 3) (ret := (some .int)) (hh := [(0, 5, 6, 23)]) (by decide) rfl ?_
  intro p e s m below meth cd hx hb hr hml hown hts hlocks htab hP hO hTh hN
  have hS : va_S (blk b (b + 170)) s.heap s.heap [] := va_S.rf
  have hl := lv_entry ([.ref b, .int len]) (n := 3) (Nat.le_of_ble_eq_true rfl)
  rw [lg_entry_eq]
  generalize (lg_sl ([.ref b, .int len]) ++ List.replicate (3 - (lg_sl ([.ref b, .int len])).length) Slot.unset).toArray = ls at hl ⊢
  have hl : lv_has ls 3 [(0, .ref b), (1, .int len)] := hl
  refine lv_aload_n hx hb dL_tryWhen_0 rfl (lv_at hl 0 rfl) ?_
  refine lv_iload_n hx hb dL_tryWhen_1 rfl (lv_at hl 1 rfl) ?_
  refine cl_xi (xW (A := (blk b (b + 170))) (As := [.int len]) (rest := []) ⟨hx, hb, hml, hown, hts⟩ (c_X6_gapIn l G b X len hst) (cwV 1 hts gL_tryWhen_X6_gapIn rfl rfl rfl (by decide +kernel) ⟨Nat.le_of_ble_eq_true rfl, Nat.le_of_ble_eq_true rfl⟩) (cb_recv hO hP) hP hO (fun U hU hW => hTh.warm hW hU) rfl hl.1 (Nat.le_of_ble_eq_true rfl) dL_tryWhen_2 ⟨Nat.le_of_ble_eq_true rfl, Nat.le_of_ble_eq_true rfl⟩) (fun r X9 H1 L hE hPx hs hk hL => ?_) (fun E ce q9 H1 L hE hs hk hL hce hcv hcl => ?_)
  · have hS := S_app hS hs hk hL (fun q h => h)
    have hw0 : pv (h_X6_gapIn X len) X = (r, X9) := by rw [hE]; rfl
    exact vx_ret (W.iret hx hb hr (fun t ht hW => ⟨by rw [hw0], by rw [hw0, ht]; exact hPx, hS.F ht⟩) hS.2.2 dL_tryWhen_5)
  · have hS := S_app (fr := (blk b (b + 170))) hS hs (fun q h _ => hk q h) (fun z hz => (hL z hz)) (fun q h => h)
    have hPb : Cb G b X H1 := cb_out (fr := noA) hP (fun q h _ => hk q h) (fun _ _ _ z => z)
    obtain rfl := hth E hE
    refine vx_catch (name := "java/lang/IllegalArgumentException") (E := "java/lang/IllegalArgumentException") hown [] ⟨0, 5, 6, 23⟩ [] htab (fun z hz => absurd hz List.not_mem_nil) (by decide) (by decide) (hts (.classLink RL 23 "java/lang/IllegalArgumentException") (by decide +kernel)) (hTh.w _ (List.mem_of_getElem? (i := 3) rfl)) hce hcv hcl ?_
    refine lv_astore_n (lv' := [(2, .ref q9), (0, .ref b), (1, .int len)]) hx hb dL_tryWhen_6 rfl hl (by decide) rfl (fun ls hl => ?_)
    refine lv_ldc (v := (-9999002)) hx hb hown (hts (.constant RL 25 (-9999002)) (by decide +kernel)) dL_tryWhen_7 ?_
    have hw0 : pv (h_X6_gapIn X len) X = (-9999002, X) := by rw [hE]; rfl
    exact vx_ret (W.iret hx hb hr (fun t ht hW => ⟨by rw [hw0], by rw [hw0, ht]; exact hPb, hS.F ht⟩) hS.2.2 dL_tryWhen_9)

theorem th_mover (X : Cx) (len : Int32) (w : Int32) (E : String) (h : h_X6_mover X len w = .inl E) : E = "java/lang/IllegalArgumentException" := by
  rw [h_X6_mover] at h
  by_cases q1 : (f_X6_requireLength len) = 0
  · rw [if_pos q1] at h
    cases h
    exact rfl
  · rw [if_neg q1] at h
    by_cases q2 : (f_X6_requireZeroOrOne w) = 0
    · rw [if_pos q2] at h
      cases h
      exact rfl
    · rw [if_neg q2] at h
      by_cases q3 : w = 0
      · rw [if_pos q3] at h
        cases h
      · rw [if_neg q3] at h
        by_cases q4 : (f_X4_carToShift (xN X) len) = (-1)
        · rw [if_pos q4] at h
          cases h
        · rw [if_neg q4] at h
          cases h

set_option maxHeartbeats 4000000 in
set_option maxRecDepth 100000 in
theorem c_L_tryMover (l : Launch) (G : GG) (b : Nat) (X : Cx) (len : Int32) (w : Int32) (hst : l.stackTraces = false) : vx_Met l yL_tryMover wsL_tryMover ({ frames := 10, cells := 1, slots := 6, locals := 163 }) (PcN G (blk b (b + 170)) [.ref b, .int len, .int w] (Cb G b X)) (QM (some (.int (pv (h_X6_mover X len w) X).1)) (Cb G b (pv (h_X6_mover X len w) X).2) (blk b (b + 170))) XNo 1 6 (blk b (b + 170)) := by
  have hth : ∀ E, h_X6_mover X len w = .inl E → E = "java/lang/IllegalArgumentException" := fun E => th_mover X len w E
  refine metW (cc := cL_tryMover) (maxL := 4) (ret := (some .int)) (hh := [(0, 6, 7, 23)]) (by decide) rfl ?_
  intro p e s m below meth cd hx hb hr hml hown hts hlocks htab hP hO hTh hN
  have hS : va_S (blk b (b + 170)) s.heap s.heap [] := va_S.rf
  have hl := lv_entry ([.ref b, .int len, .int w]) (n := 4) (Nat.le_of_ble_eq_true rfl)
  rw [lg_entry_eq]
  generalize (lg_sl ([.ref b, .int len, .int w]) ++ List.replicate (4 - (lg_sl ([.ref b, .int len, .int w])).length) Slot.unset).toArray = ls at hl ⊢
  have hl : lv_has ls 4 [(0, .ref b), (1, .int len), (2, .int w)] := hl
  refine lv_aload_n hx hb dL_tryMover_0 rfl (lv_at hl 0 rfl) ?_
  refine lv_iload_n hx hb dL_tryMover_1 rfl (lv_at hl 1 rfl) ?_
  refine lv_iload_n hx hb dL_tryMover_2 rfl (lv_at hl 2 rfl) ?_
  refine cl_xi (xW (A := (blk b (b + 170))) (As := [.int len, .int w]) (rest := []) ⟨hx, hb, hml, hown, hts⟩ (c_X6_mover l G b X len w hst) (cwV 2 hts gL_tryMover_X6_mover rfl rfl rfl (by decide +kernel) ⟨Nat.le_of_ble_eq_true rfl, Nat.le_of_ble_eq_true rfl⟩) (cb_recv hO hP) hP hO (fun U hU hW => hTh.warm hW hU) rfl hl.1 (Nat.le_of_ble_eq_true rfl) dL_tryMover_3 ⟨Nat.le_of_ble_eq_true rfl, Nat.le_of_ble_eq_true rfl⟩) (fun r X9 H1 L hE hPx hs hk hL => ?_) (fun E ce q9 H1 L hE hs hk hL hce hcv hcl => ?_)
  · have hS := S_app hS hs hk hL (fun q h => h)
    have hw0 : pv (h_X6_mover X len w) X = (r, X9) := by rw [hE]; rfl
    exact vx_ret (W.iret hx hb hr (fun t ht hW => ⟨by rw [hw0], by rw [hw0, ht]; exact hPx, hS.F ht⟩) hS.2.2 dL_tryMover_6)
  · have hS := S_app (fr := (blk b (b + 170))) hS hs (fun q h _ => hk q h) (fun z hz => (hL z hz)) (fun q h => h)
    have hPb : Cb G b X H1 := cb_out (fr := noA) hP (fun q h _ => hk q h) (fun _ _ _ z => z)
    obtain rfl := hth E hE
    refine vx_catch (name := "java/lang/IllegalArgumentException") (E := "java/lang/IllegalArgumentException") hown [] ⟨0, 6, 7, 23⟩ [] htab (fun z hz => absurd hz List.not_mem_nil) (by decide) (by decide) (hts (.classLink RL 23 "java/lang/IllegalArgumentException") (by decide +kernel)) (hTh.w _ (List.mem_of_getElem? (i := 3) rfl)) hce hcv hcl ?_
    refine lv_astore_n (lv' := [(3, .ref q9), (0, .ref b), (1, .int len), (2, .int w)]) hx hb dL_tryMover_7 rfl hl (by decide) rfl (fun ls hl => ?_)
    refine lv_ldc (v := (-9999002)) hx hb hown (hts (.constant RL 25 (-9999002)) (by decide +kernel)) dL_tryMover_8 ?_
    have hw0 : pv (h_X6_mover X len w) X = (-9999002, X) := by rw [hE]; rfl
    exact vx_ret (W.iret hx hb hr (fun t ht hW => ⟨by rw [hw0], by rw [hw0, ht]; exact hPb, hS.F ht⟩) hS.2.2 dL_tryMover_10)

theorem th_save (X : Cx) (x : Int32) (E : String) (h : h_X6_save X x = .inl E) : E = "java/lang/IndexOutOfBoundsException" := by
  rw [h_X6_save] at h
  by_cases q1 : (f_X6_requireSlot x) = 0
  · rw [if_pos q1] at h
    cases h
    exact rfl
  · rw [if_neg q1] at h
    cases h

set_option maxHeartbeats 4000000 in
set_option maxRecDepth 100000 in
theorem c_L_tryKeep (l : Launch) (G : GG) (b : Nat) (X : Cx) (x : Int32) (hst : l.stackTraces = false) : vx_Met l yL_tryKeep wsL_tryKeep ({ frames := 10, cells := 1, slots := 6, locals := 161 }) (PcN G (blk b (b + 170)) [.ref b, .int x] (Cb G b X)) (QM (some (.int (pv (h_X6_save X x) X).1)) (Cb G b (pv (h_X6_save X x) X).2) (blk b (b + 170))) XNo 1 6 (blk b (b + 170)) := by
  have hth : ∀ E, h_X6_save X x = .inl E → E = "java/lang/IndexOutOfBoundsException" := fun E => th_save X x E
  refine metW (cc := cL_tryKeep) (maxL := 3) (ret := (some .int)) (hh := [(0, 5, 6, 13)]) (by decide) rfl ?_
  intro p e s m below meth cd hx hb hr hml hown hts hlocks htab hP hO hTh hN
  have hS : va_S (blk b (b + 170)) s.heap s.heap [] := va_S.rf
  have hl := lv_entry ([.ref b, .int x]) (n := 3) (Nat.le_of_ble_eq_true rfl)
  rw [lg_entry_eq]
  generalize (lg_sl ([.ref b, .int x]) ++ List.replicate (3 - (lg_sl ([.ref b, .int x])).length) Slot.unset).toArray = ls at hl ⊢
  have hl : lv_has ls 3 [(0, .ref b), (1, .int x)] := hl
  refine lv_aload_n hx hb dL_tryKeep_0 rfl (lv_at hl 0 rfl) ?_
  refine lv_iload_n hx hb dL_tryKeep_1 rfl (lv_at hl 1 rfl) ?_
  refine cl_xi (xW (A := (blk b (b + 170))) (As := [.int x]) (rest := []) ⟨hx, hb, hml, hown, hts⟩ (c_X6_save l G b X x hst) (cwV 1 hts gL_tryKeep_X6_save rfl rfl rfl (by decide +kernel) ⟨Nat.le_of_ble_eq_true rfl, Nat.le_of_ble_eq_true rfl⟩) (cb_recv hO hP) hP hO (fun U hU hW => hTh.warm hW hU) rfl hl.1 (Nat.le_of_ble_eq_true rfl) dL_tryKeep_2 ⟨Nat.le_of_ble_eq_true rfl, Nat.le_of_ble_eq_true rfl⟩) (fun r X9 H1 L hE hPx hs hk hL => ?_) (fun E ce q9 H1 L hE hs hk hL hce hcv hcl => ?_)
  · have hS := S_app hS hs hk hL (fun q h => h)
    have hw0 : pv (h_X6_save X x) X = (r, X9) := by rw [hE]; rfl
    exact vx_ret (W.iret hx hb hr (fun t ht hW => ⟨by rw [hw0], by rw [hw0, ht]; exact hPx, hS.F ht⟩) hS.2.2 dL_tryKeep_5)
  · have hS := S_app (fr := (blk b (b + 170))) hS hs (fun q h _ => hk q h) (fun z hz => (hL z hz)) (fun q h => h)
    have hPb : Cb G b X H1 := cb_out (fr := noA) hP (fun q h _ => hk q h) (fun _ _ _ z => z)
    obtain rfl := hth E hE
    refine vx_catch (name := "java/lang/IndexOutOfBoundsException") (E := "java/lang/IndexOutOfBoundsException") hown [] ⟨0, 5, 6, 13⟩ [] htab (fun z hz => absurd hz List.not_mem_nil) (by decide) (by decide) (hts (.classLink RL 13 "java/lang/IndexOutOfBoundsException") (by decide +kernel)) (hTh.w _ (List.mem_of_getElem? (i := 5) rfl)) hce hcv hcl ?_
    refine lv_astore_n (lv' := [(2, .ref q9), (0, .ref b), (1, .int x)]) hx hb dL_tryKeep_6 rfl hl (by decide) rfl (fun ls hl => ?_)
    refine lv_ldc (v := (-9999001)) hx hb hown (hts (.constant RL 15 (-9999001)) (by decide +kernel)) dL_tryKeep_7 ?_
    have hw0 : pv (h_X6_save X x) X = (-9999001, X) := by rw [hE]; rfl
    exact vx_ret (W.iret hx hb hr (fun t ht hW => ⟨by rw [hw0], by rw [hw0, ht]; exact hPb, hS.F ht⟩) hS.2.2 dL_tryKeep_9)

theorem th_restore (X : Cx) (x : Int32) (E : String) (h : h_X6_restore X x = .inl E) : E = "java/lang/IndexOutOfBoundsException" ∨ E = "java/lang/IllegalStateException" := by
  rw [h_X6_restore] at h
  by_cases q1 : (f_X6_requireSlot x) = 0
  · rw [if_pos q1] at h
    cases h
    exact .inl rfl
  · rw [if_neg q1] at h
    by_cases q2 : (f_X1_isFilled (xS X) x) = 0
    · rw [if_pos q2] at h
      cases h
      exact .inr rfl
    · rw [if_neg q2] at h
      cases h

set_option maxHeartbeats 4000000 in
set_option maxRecDepth 100000 in
theorem c_L_tryBack (l : Launch) (G : GG) (b : Nat) (X : Cx) (x : Int32) (hst : l.stackTraces = false) : vx_Met l yL_tryBack wsL_tryBack ({ frames := 10, cells := 1, slots := 6, locals := 161 }) (PcN G (blk b (b + 170)) [.ref b, .int x] (Cb G b X)) (QM (some (.int (pv (h_X6_restore X x) X).1)) (Cb G b (pv (h_X6_restore X x) X).2) (blk b (b + 170))) XNo 1 6 (blk b (b + 170)) := by
  have hth : ∀ E, h_X6_restore X x = .inl E → E = "java/lang/IndexOutOfBoundsException" ∨ E = "java/lang/IllegalStateException" := fun E => th_restore X x E
  refine metW (cc := cL_tryBack) (maxL := 3) (ret := (some .int)) (hh := [(0, 5, 6, 13), (0, 5, 10, 16)]) (by decide) rfl ?_
  intro p e s m below meth cd hx hb hr hml hown hts hlocks htab hP hO hTh hN
  have hS : va_S (blk b (b + 170)) s.heap s.heap [] := va_S.rf
  have hl := lv_entry ([.ref b, .int x]) (n := 3) (Nat.le_of_ble_eq_true rfl)
  rw [lg_entry_eq]
  generalize (lg_sl ([.ref b, .int x]) ++ List.replicate (3 - (lg_sl ([.ref b, .int x])).length) Slot.unset).toArray = ls at hl ⊢
  have hl : lv_has ls 3 [(0, .ref b), (1, .int x)] := hl
  refine lv_aload_n hx hb dL_tryBack_0 rfl (lv_at hl 0 rfl) ?_
  refine lv_iload_n hx hb dL_tryBack_1 rfl (lv_at hl 1 rfl) ?_
  refine cl_xi (xW (A := (blk b (b + 170))) (As := [.int x]) (rest := []) ⟨hx, hb, hml, hown, hts⟩ (c_X6_restore l G b X x hst) (cwV 1 hts gL_tryBack_X6_restore rfl rfl rfl (by decide +kernel) ⟨Nat.le_of_ble_eq_true rfl, Nat.le_of_ble_eq_true rfl⟩) (cb_recv hO hP) hP hO (fun U hU hW => hTh.warm hW hU) rfl hl.1 (Nat.le_of_ble_eq_true rfl) dL_tryBack_2 ⟨Nat.le_of_ble_eq_true rfl, Nat.le_of_ble_eq_true rfl⟩) (fun r X9 H1 L hE hPx hs hk hL => ?_) (fun E ce q9 H1 L hE hs hk hL hce hcv hcl => ?_)
  · have hS := S_app hS hs hk hL (fun q h => h)
    have hw0 : pv (h_X6_restore X x) X = (r, X9) := by rw [hE]; rfl
    exact vx_ret (W.iret hx hb hr (fun t ht hW => ⟨by rw [hw0], by rw [hw0, ht]; exact hPx, hS.F ht⟩) hS.2.2 dL_tryBack_5)
  · have hS := S_app (fr := (blk b (b + 170))) hS hs (fun q h _ => hk q h) (fun z hz => (hL z hz)) (fun q h => h)
    have hPb : Cb G b X H1 := cb_out (fr := noA) hP (fun q h _ => hk q h) (fun _ _ _ z => z)
    rcases hth E hE with rfl | rfl
    · refine vx_catch (name := "java/lang/IndexOutOfBoundsException") (E := "java/lang/IndexOutOfBoundsException") hown [] ⟨0, 5, 6, 13⟩ [⟨0, 5, 10, 16⟩] htab (fun z hz => absurd hz List.not_mem_nil) (by decide) (by decide) (hts (.classLink RL 13 "java/lang/IndexOutOfBoundsException") (by decide +kernel)) (hTh.w _ (List.mem_of_getElem? (i := 5) rfl)) hce hcv hcl ?_
      refine lv_astore_n (lv' := [(2, .ref q9), (0, .ref b), (1, .int x)]) hx hb dL_tryBack_6 rfl hl (by decide) rfl (fun ls hl => ?_)
      refine lv_ldc (v := (-9999001)) hx hb hown (hts (.constant RL 15 (-9999001)) (by decide +kernel)) dL_tryBack_7 ?_
      have hw0 : pv (h_X6_restore X x) X = (-9999001, X) := by rw [hE]; rfl
      exact vx_ret (W.iret hx hb hr (fun t ht hW => ⟨by rw [hw0], by rw [hw0, ht]; exact hPb, hS.F ht⟩) hS.2.2 dL_tryBack_9)
    · refine vx_catch (name := "java/lang/IllegalStateException") (E := "java/lang/IllegalStateException") hown [⟨0, 5, 6, 13⟩] ⟨0, 5, 10, 16⟩ [] htab (fun z hz => by rw [List.mem_singleton.mp hz]; exact .inr ⟨by decide, "java/lang/IndexOutOfBoundsException", hts (.classLink RL 13 "java/lang/IndexOutOfBoundsException") (by decide +kernel), (hN _ (List.mem_of_getElem? (i := 2) rfl))⟩) (by decide) (by decide) (hts (.classLink RL 16 "java/lang/IllegalStateException") (by decide +kernel)) (hTh.w _ (List.mem_of_getElem? (i := 4) rfl)) hce hcv hcl ?_
      refine lv_astore_n (lv' := [(2, .ref q9), (0, .ref b), (1, .int x)]) hx hb dL_tryBack_10 rfl hl (by decide) rfl (fun ls hl => ?_)
      refine lv_ldc (v := (-9999003)) hx hb hown (hts (.constant RL 18 (-9999003)) (by decide +kernel)) dL_tryBack_11 ?_
      have hw0 : pv (h_X6_restore X x) X = (-9999003, X) := by rw [hE]; rfl
      exact vx_ret (W.iret hx hb hr (fun t ht hW => ⟨by rw [hw0], by rw [hw0, ht]; exact hPb, hS.F ht⟩) hS.2.2 dL_tryBack_13)
