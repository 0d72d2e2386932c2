/-! the law's wrappers: they catch, and say which -/
abbrev lgW (G : GG) (o : Nat) (f : Nat → Int64) : va_W := [(o, .inl (G.2 4, 1, .inr (.inl f)))]
def wfr (b o : Nat) : Nat → Prop := fun q => blk b (b + 170) q ∨ q = o
abbrev Wx : Type := Cx × (Nat → Int64)
def WX (G : GG) (b o : Nat) (S : Wx) (H : Heap) : Prop := Cb G b S.1 H ∧ va_P G.1 vwCl (lgW G o S.2) H
/-- what a wrapper answers: 0 and the answer in out[0], or which -/
def wr (E1 : String) (h : String ⊕ (Int32 × Cx)) (S : Wx) : Int32 × Wx := match h with
  | .inl E => (if E = E1 then 1 else 2, S)
  | .inr (r, X) => (0, (X, vp_updL S.2 (0 : Int32).toNatClampNeg r.toInt64))
theorem wx_D {G : GG} {b o : Nat} {X : Cx} {f : Nat → Int64} (hd : o < b ∨ b + 170 ≤ o) : va_D (wfr b o) (lgW G o f ++ (stW G (b + 12) (xR X) ++ cbR G b X)) := by
  have h := cb_D (G := G) (b := b) (X := X) (A := blk b (b + 170)) (fun _ z => z)
  refine va_D.app (Adr.one.D fun q h1 h2 => .inr ?_) ⟨h.1, fun k q hk => .inl (h.2 k q hk)⟩ (fun i j p q hp hq e => ?_)
  · have h3 : q < o + 1 := h2
    omega
  · have h1 := Adr.one.lt hp
    have h3 : p.1 < o + 1 := h1.2
    have h2 := h.2 j q hq
    have h4 := h2.1
    have h5 := h2.2
    omega
theorem wx_st {G : GG} {b o : Nat} {X : Cx} {f g : Nat → Int64} {H : Heap} (h : va_P G.1 vwCl ((lgW G o f ++ (stW G (b + 12) (xR X) ++ cbR G b X)).set 0 (o, .inl (G.2 4, 1, .inr (.inl g)))) H) : WX G b o (X, g) H := by
  have h1 := (P_app (w1 := lgW G o g) (w2 := stW G (b + 12) (xR X) ++ cbR G b X)).mp h
  exact ⟨cb_un (v := xR X) h1.2, h1.1⟩
def ncL : List (String × String) := [("java/lang/IllegalStateException", "java/lang/IllegalArgumentException"), ("java/lang/IllegalArgumentException", "java/lang/IndexOutOfBoundsException"), ("java/lang/IllegalStateException", "java/lang/IndexOutOfBoundsException")]
def Nx (U : State) : Prop := ∀ q ∈ ncL, va_Nc q.1 q.2 U
theorem Nx.calling {U : State} {g : JFrame} {mk : MethodId} {a : Array Value} (h : Nx U) : Nx (U.calling g mk a) := fun q hq => va_Nc.moved (u := U) (U := U.calling g mk a) (Vm.Alike.refl U.vm) (h q hq)
theorem Nx.warm {s U : State} (hW : s.WarmedH U.vm) (h : Nx s) : Nx U := fun q hq => va_Nc.moved hW.alike (h q hq)
def PcN (G : GG) (A : Nat → Prop) (av : List Value) (P : Heap → Prop) : Array Value → State → Prop := fun v U => PcT G A av P v U ∧ Nx U
theorem PcN_blind {G : GG} {A : Nat → Prop} {av : List Value} {P : Heap → Prop} : FrameBlind (PcN G A av P) := fun _ _ _ _ h => ⟨⟨h.1.1, h.1.2.1, h.1.2.2.1.calling, h.1.2.2.2.calling⟩, h.2.calling⟩
theorem cov_t {k a b h : Nat} (h1 : a ≤ k) (h2 : k < b) (t : Nat) : covers ⟨a, b, h, t⟩ k = true := by simp [covers, h1, h2]
section XW
variable {p : Program} {l : Launch} {e : Env} {R : Room} {s : State} {m : MethodId} {args : Array Value} {below : List Frame} {meth : Method} {c : Code} {H : Heap} {locs : List Loc} {cells slots : Nat} {Q : State → Prop}
variable {cc : ByteArray} {pc : Nat} {ls : Array Slot} {rest st0 : List Value} {a : Array Value} {A fr : Nat → Prop} {H0 : Heap} {mc ms : Nat} {G : GG} {ws : va_W}
variable {y : MethodName} {bytes : ByteArray} {maxL nL n index : Nat} {ret : Option FieldType} {wsc : List Cond} {rm : Room} {Ts : List Cond} {own C : String} {b : Addr} {As : List Value} {P : Heap → Prop} {free : Addr → Prop}
def XNo : String → State → State → Prop := fun _ _ _ => False
theorem metW {Qc : Array Value → State → Outcome → State → Prop} {XC : String → State → State → Prop} {av : List Value} {ws' : List Cond} {hh : List (Nat × Nat × Nat × Nat)} (hy : plainName y.cls = true) (hw : wsc = Cond.codeWith y cc maxL ret hh :: ws')
    (body : ∀ (p : Program) (e : Env) (s : State) (m : MethodId) (below : List Frame) (meth : Method) (c : Code), p.tables.exec = Jvm.exec → c.code = cc → meth.sig.returnType = ret → c.maxLocals = maxL → s.vm.findClass y.cls = some m.cls →
      (∀ w ∈ wsc, w.before av.toArray s = true) → meth.locks = false → c.exceptionTable.toList = tableOf hh → P s.heap → Ok G s → Thr A s → Nx s →
      W p l e (headSpec wsc rm).room s m av.toArray below meth c s.heap [] 0 0 (vx_MQ below Qc XC av.toArray s mc ms free) (entryFrame m av.toArray maxL)) : vx_Met l y wsc rm (PcN G A av P) Qc XC mc ms free := by
  refine vx_ofWH (cc := cc) (maxL := maxL) (ret := ret) (hh := hh) hy hw ?_
  intro p e s m args below meth c s₁ B hml hv
  obtain ⟨⟨rfl, hP, hO, hT⟩, hN⟩ := hv
  have hts : ∀ w ∈ wsc, w.before av.toArray s = true := atoms_spec (ws := wsc) B.pre
  exact body p e s m below meth c B.exec B.bytes B.returns hml (findClass_of_methodNamed B.named) hts B.notSynchronized (vx_table (x := y) B (hts _ (by rw [hw]; exact List.mem_cons_self))) hP hO hT hN
theorem cl_xi {σ : Type} {h : String ⊕ (Int32 × σ)} {Pw : σ → Heap → Prop} {fr : Nat → Prop} {Qe : State → Prop} (hr : vx_Run p l e R s m args below meth c H locs cells slots mc ms (F0 m pc ls st0) rest (QX h Pw fr a) (XX h) free)
    (kk : ∀ (r : Int32) (x : σ) (H1 : Heap) (L : List Loc), h = .inr (r, x) → Pw x H1 → H.size ≤ H1.size → (∀ q : Nat, q < H.size → ¬ fr q → H1[q]? = H[q]?) → (∀ z ∈ L, free z.base) → W p l e R s m args below meth c H1 (locs ++ L) (cells + mc) (slots + ms) Qe (F0 m (pc + 3) ls (.int r :: rest)))
    (kx : ∀ (E : String) (ce : Cell) (q9 : Addr) (H1 : Heap) (L : List Loc), h = .inl E → H.size ≤ H1.size → (∀ q : Nat, q < H.size → H1[q]? = H[q]?) → (∀ z ∈ L, free z.base) → H1[q9]? = some ce → ce.vm = .none → s.vm.findClass E = some ce.cls → vx_W p l e R s m args below meth c H1 (locs ++ L) (cells + mc) (slots + ms) Qe (F0 m pc ls rest) q9) :
    W p l e R s m args below meth c H locs cells slots Qe (F0 m pc ls st0) := by
  intro T hT X
  rcases hr T hT X with ⟨v, st₀, t, T', L, h0, X', hL, e1, e2, ⟨r, x, hE, hoc, hPx, hF⟩, st⟩ | ⟨q, st₀, t, T', L, E, ce, h0, X', hL, e1, e2, ⟨hE, hF⟩, hce, hcv, hcl, st⟩
  · cases hoc
    obtain ⟨t2, a1, b1⟩ := kk r x T'.heap L hE (by rw [e1]; exact hPx) (by rw [e1, ← h0]; exact hF.1) (by rw [e1, ← h0]; exact hF.2) hL T' rfl X'
    exact ⟨t2, st t2 a1, b1⟩
  · obtain ⟨t2, a1, b1⟩ := kx E ce q T'.heap L hE (by rw [e1, ← h0]; exact hF.1) (by rw [e1, ← h0]; exact fun z hz => hF.2 z hz (fun n => n)) hL (by rw [e1]; exact hce) hcv hcl T' rfl X'
    exact ⟨t2, st.trans a1, b1⟩
/-- a wrapper at its caller: an answer, and the world -/
theorem cl_mx {r : Int32} {Pw : Heap → Prop} {fr : Nat → Prop} {Qe : State → Prop} (hr : vx_Run p l e R s m args below meth c H locs cells slots mc ms (F0 m pc ls st0) rest (QM (some (.int r)) Pw fr a) XNo free)
    (kk : ∀ (H1 : Heap) (L : List Loc), Pw H1 → H.size ≤ H1.size → (∀ q : Nat, q < H.size → ¬ fr q → H1[q]? = H[q]?) → (∀ z ∈ L, free z.base) → W p l e R s m args below meth c H1 (locs ++ L) (cells + mc) (slots + ms) Qe (F0 m (pc + 3) ls (.int r :: rest))) :
    W p l e R s m args below meth c H locs cells slots Qe (F0 m pc ls st0) := by
  intro T hT X
  rcases hr T hT X with ⟨v, st₀, t, T', L, h0, X', hL, e1, e2, ⟨hoc, hPx, hF⟩, st⟩ | ⟨q, st₀, t, T', L, E, ce, h0, X', hL, e1, e2, hF, hce, hcv, hcl, st⟩
  · cases hoc
    obtain ⟨t2, a1, b1⟩ := kk T'.heap L (by rw [e1]; exact hPx) (by rw [e1, ← h0]; exact hF.1) (by rw [e1, ← h0]; exact hF.2) hL T' rfl X'
    exact ⟨t2, st t2 a1, b1⟩
  · exact hF.elim
end XW

theorem ni_lp_xLoad (n k : Nat) (o s : Int32) (X : Cx) {E : String} : ¬ lp_xLoad n k o s X = .inl E := by
  induction n generalizing k o s X with
  | zero => rw [lp_xLoad]; exact fun h => by cases h
  | succ n ih =>
    rw [lp_xLoad]
    by_cases q1 : 120 ≤ (nI k)
    · rw [if_pos q1]; exact fun h => by cases h
    · rw [if_neg q1]
      by_cases q2 : (f_X5_hasLetter (xT X) s) = 0
      · rw [if_pos q2]; exact fun h => by cases h
      · rw [if_neg q2]
        by_cases q3 : ((h_X5_doCommand (xT X) (xN X) s).1) = (-1)
        · rw [if_pos q3]; exact ih _ _ _ _
        · rw [if_neg q3]; exact ih _ _ _ _
theorem ni_lp_xGapIn (len : Int32) (n k : Nat) (X : Cx) {E : String} : ¬ lp_xGapIn len n k X = .inl E := by
  induction n generalizing k X with
  | zero => rw [lp_xGapIn]; exact fun h => by cases h
  | succ n ih =>
    rw [lp_xGapIn]
    by_cases q1 : 100 < (nI k)
    · rw [if_pos q1]; exact fun h => by cases h
    · rw [if_neg q1]
      by_cases q2 : (f_X4_reasonAgainst (xR X) len) = 0
      · rw [if_pos q2]; exact fun h => by cases h
      · rw [if_neg q2]; exact ih _ _
theorem ni_lp_xSim (w : Int32) (n k : Nat) (x : Int64) (X : Cx) {E : String} : ¬ lp_xSim w n k x X = .inl E := by
  induction n generalizing k x X with
  | zero => rw [lp_xSim]; exact fun h => by cases h
  | succ n ih =>
    rw [lp_xSim]
    by_cases q1 : w ≤ (nI k)
    · rw [if_pos q1]; exact fun h => by cases h
    · rw [if_neg q1]; exact ih _ _ _
theorem ni_lp_xScript (w : Int32) (sc : Int64) (n : Nat) (al : Int64) (k : Nat) (X : Cx) {E : String} : ¬ lp_xScript w sc n al k X = .inl E := by
  induction n generalizing al k X with
  | zero => rw [lp_xScript]; exact fun h => by cases h
  | succ n ih =>
    rw [lp_xScript]
    by_cases q1 : w ≤ (nI k)
    · rw [if_pos q1]; exact fun h => by cases h
    · rw [if_neg q1]
      by_cases q2 : (lg_cmp al 0) ≤ 0
      · rw [if_pos q2]; exact fun h => by cases h
      · rw [if_neg q2]
        by_cases q3 : ((h_X2_succeeds (xR X) (((sc / al) - (sc / al) / 1000000 * 1000000).toInt32)).1) = 0
        · rw [if_pos q3]; exact fun h => by cases h
        · rw [if_neg q3]; exact ih _ _ _
theorem unit_E (X : Cx) (w : Int32) (sc : Int64) (n : Nat) (un : Int64) (k : Nat) {E : String} (h : lp_xUnit X w sc n un k = .inl E) : E = "java/lang/IllegalArgumentException" := by
  induction n generalizing un k with
  | zero => rw [lp_xUnit] at h; cases h
  | succ n ih =>
    rw [lp_xUnit] at h
    by_cases q1 : w ≤ (nI k)
    · rw [if_pos q1] at h
      by_cases q2 : (lg_cmp sc 0) < 0
      · rw [if_pos q2] at h; cases h; rfl
      · rw [if_neg q2] at h
        by_cases q3 : (lg_cmp (sc / 1000000) un) < 0
        · rw [if_pos q3] at h; exact absurd h (ni_lp_xScript _ _ _ _ _ _)
        · rw [if_neg q3] at h; cases h; rfl
    · rw [if_neg q1] at h
      exact ih _ _ h

theorem th_append (X : Cx) (c : Int32) (E : String) (h : h_X6_append X c = .inl E) : E = "java/lang/IllegalArgumentException" ∨ E = "java/lang/IllegalStateException" := by
  rw [h_X6_append] at h
  by_cases q1 : c < 0
  · rw [if_pos q1] at h
    cases h
    exact .inl rfl
  · rw [if_neg q1] at h
    by_cases q2 : c ≤ 255
    · rw [if_pos q2] at h
      by_cases q3 : (f_X5_isFull (xT X)) = 0
      · rw [if_pos q3] at h
        cases h
      · rw [if_neg q3] at h
        cases h
        exact .inr rfl
    · rw [if_neg q2] at h
      cases h
      exact .inl rfl

theorem th_load (X : Cx) (E : String) (h : h_X6_load X = .inl E) : E = "java/lang/IllegalStateException" := by
  rw [h_X6_load] at h
  by_cases q1 : (f_X5_firstError (xT X)) = (-1)
  · rw [if_pos q1] at h
    exact absurd h (ni_lp_xLoad _ _ _ _ _)
  · rw [if_neg q1] at h
    cases h
    exact rfl

theorem th_about (X : Cx) (w : Int32) (E : String) (h : h_X6_about X w = .inl E) : E = "java/lang/IllegalArgumentException" := by
  rw [h_X6_about] at h
  by_cases q1 : w = 0
  · rw [if_pos q1] at h
    cases h
  · rw [if_neg q1] at h
    by_cases q2 : w = 1
    · rw [if_pos q2] at h
      cases h
    · rw [if_neg q2] at h
      by_cases q3 : w = 2
      · rw [if_pos q3] at h
        cases h
      · rw [if_neg q3] at h
        by_cases q4 : w = 3
        · rw [if_pos q4] at h
          cases h
        · rw [if_neg q4] at h
          by_cases q5 : w = 4
          · rw [if_pos q5] at h
            cases h
          · rw [if_neg q5] at h
            by_cases q6 : w = 5
            · rw [if_pos q6] at h
              cases h
            · rw [if_neg q6] at h
              by_cases q7 : w = 6
              · rw [if_pos q7] at h
                cases h
              · rw [if_neg q7] at h
                by_cases q8 : w = 7
                · rw [if_pos q8] at h
                  cases h
                · rw [if_neg q8] at h
                  by_cases q9 : w = 8
                  · rw [if_pos q9] at h
                    cases h
                  · rw [if_neg q9] at h
                    by_cases q10 : w = 9
                    · rw [if_pos q10] at h
                      cases h
                    · rw [if_neg q10] at h
                      by_cases q11 : w = 10
                      · rw [if_pos q11] at h
                        cases h
                      · rw [if_neg q11] at h
                        by_cases q12 : w = 11
                        · rw [if_pos q12] at h
                          cases h
                        · rw [if_neg q12] at h
                          cases h
                          exact rfl

theorem th_carOf (X : Cx) (c : Int32) (w : Int32) (E : String) (h : h_X6_carOf X c w = .inl E) : E = "java/lang/IndexOutOfBoundsException" ∨ E = "java/lang/IllegalArgumentException" := by
  rw [h_X6_carOf] at h
  by_cases q1 : (f_X6_requireCar X c) = 0
  · rw [if_pos q1] at h
    cases h
    exact .inl rfl
  · rw [if_neg q1] at h
    by_cases q2 : w = 0
    · rw [if_pos q2] at h
      cases h
    · rw [if_neg q2] at h
      by_cases q3 : w = 1
      · rw [if_pos q3] at h
        cases h
      · rw [if_neg q3] at h
        by_cases q4 : w = 2
        · rw [if_pos q4] at h
          cases h
        · rw [if_neg q4] at h
          by_cases q5 : w = 3
          · rw [if_pos q5] at h
            cases h
          · rw [if_neg q5] at h
            by_cases q6 : w = 4
            · rw [if_pos q6] at h
              cases h
            · rw [if_neg q6] at h
              by_cases q7 : w = 5
              · rw [if_pos q7] at h
                cases h
              · rw [if_neg q7] at h
                by_cases q8 : w = 6
                · rw [if_pos q8] at h
                  by_cases q9 : (f_X4_isParked (xN X) c) = 0
                  · rw [if_pos q9] at h
                    cases h
                  · rw [if_neg q9] at h
                    cases h
                · rw [if_neg q8] at h
                  cases h
                  exact .inr rfl

theorem th_at (X : Cx) (x : Int32) (E : String) (h : h_X6_at X x = .inl E) : E = "java/lang/IndexOutOfBoundsException" := by
  rw [h_X6_at] at h
  by_cases q1 : (f_X6_requireCell x) = 0
  · rw [if_pos q1] at h
    cases h
    exact rfl
  · rw [if_neg q1] at h
    cases h

theorem th_gap (X : Cx) (k : Int32) (w : Int32) (E : String) (h : h_X6_gap X k w = .inl E) : E = "java/lang/IndexOutOfBoundsException" ∨ E = "java/lang/IllegalArgumentException" := by
  rw [h_X6_gap] at h
  by_cases q1 : (f_X4_gapStart (xN X) k) = (-1)
  · rw [if_pos q1] at h
    cases h
    exact .inl rfl
  · rw [if_neg q1] at h
    by_cases q2 : (f_X6_requireZeroOrOne w) = 0
    · rw [if_pos q2] at h
      cases h
      exact .inr rfl
    · rw [if_neg q2] at h
      by_cases q3 : w = 0
      · rw [if_pos q3] at h
        cases h
      · rw [if_neg q3] at h
        cases h

theorem th_setting (X : Cx) (w : Int32) (E : String) (h : h_X6_setting X w = .inl E) : E = "java/lang/IllegalArgumentException" := by
  rw [h_X6_setting] at h
  by_cases q1 : (f_X4_settingOf (xN X) w) = (-1)
  · rw [if_pos q1] at h
    cases h
    exact rfl
  · rw [if_neg q1] at h
    cases h

theorem th_hydrant (X : Cx) (x : Int32) (on : Int32) (E : String) (h : h_X6_hydrant X x on = .inl E) : E = "java/lang/IndexOutOfBoundsException" ∨ E = "java/lang/IllegalStateException" := by
  rw [h_X6_hydrant] at h
  by_cases q1 : (f_X6_requireCell x) = 0
  · rw [if_pos q1] at h
    cases h
    exact .inl rfl
  · rw [if_neg q1] at h
    by_cases q2 : (f_X4_allowsHydrant (xN X) x on) = 0
    · rw [if_pos q2] at h
      cases h
      exact .inr rfl
    · rw [if_neg q2] at h
      cases h

theorem th_come (X : Cx) (len : Int32) (stay : Int32) (E : String) (h : h_X6_come X len stay = .inl E) : E = "java/lang/IllegalArgumentException" ∨ E = "java/lang/IllegalStateException" := by
  rw [h_X6_come] at h
  by_cases q1 : (f_X6_requireLength len) = 0
  · rw [if_pos q1] at h
    cases h
    exact .inl rfl
  · rw [if_neg q1] at h
    by_cases q2 : (f_X6_isStay stay) = 0
    · rw [if_pos q2] at h
      cases h
      exact .inl rfl
    · rw [if_neg q2] at h
      by_cases q3 : (f_X4_allCame (xN X)) = 0
      · rw [if_pos q3] at h
        cases h
      · rw [if_neg q3] at h
        cases h
        exact .inr rfl

theorem th_leave (X : Cx) (c : Int32) (E : String) (h : h_X6_leave X c = .inl E) : E = "java/lang/IndexOutOfBoundsException" ∨ E = "java/lang/IllegalStateException" := by
  rw [h_X6_leave] at h
  by_cases q1 : (f_X6_requireCar X c) = 0
  · rw [if_pos q1] at h
    cases h
    exact .inl rfl
  · rw [if_neg q1] at h
    by_cases q2 : (f_X6_requireParked X c) = 0
    · rw [if_pos q2] at h
      cases h
      exact .inr rfl
    · rw [if_neg q2] at h
      cases h

theorem th_tow (X : Cx) (c : Int32) (E : String) (h : h_X6_tow X c = .inl E) : E = "java/lang/IndexOutOfBoundsException" ∨ E = "java/lang/IllegalStateException" := by
  rw [h_X6_tow] at h
  by_cases q1 : (f_X6_requireCar X c) = 0
  · rw [if_pos q1] at h
    cases h
    exact .inl rfl
  · rw [if_neg q1] at h
    by_cases q2 : (f_X6_requireParked X c) = 0
    · rw [if_pos q2] at h
      cases h
      exact .inr rfl
    · rw [if_neg q2] at h
      cases h

theorem th_move (X : Cx) (c : Int32) (x : Int32) (E : String) (h : h_X6_move X c x = .inl E) : E = "java/lang/IndexOutOfBoundsException" ∨ E = "java/lang/IllegalStateException" := by
  rw [h_X6_move] at h
  by_cases q1 : (f_X6_requireCar X c) = 0
  · rw [if_pos q1] at h
    cases h
    exact .inl rfl
  · rw [if_neg q1] at h
    by_cases q2 : (f_X6_requireCell x) = 0
    · rw [if_pos q2] at h
      cases h
      exact .inl rfl
    · rw [if_neg q2] at h
      by_cases q3 : (f_X4_canShift (xN X) c x) = 0
      · rw [if_pos q3] at h
        cases h
        exact .inr rfl
      · rw [if_neg q3] at h
        cases h

theorem th_minutes (X : Cx) (mi : Int32) (E : String) (h : h_X6_minutes X mi = .inl E) : E = "java/lang/IllegalArgumentException" := by
  rw [h_X6_minutes] at h
  by_cases q1 : (f_X6_isMinutes mi) = 0
  · rw [if_pos q1] at h
    cases h
    exact rfl
  · rw [if_neg q1] at h
    cases h

theorem th_set (X : Cx) (w : Int32) (v : Int32) (E : String) (h : h_X6_set X w v = .inl E) : E = "java/lang/IllegalArgumentException" := by
  rw [h_X6_set] at h
  by_cases q1 : (f_X6_isSettingValue w v) = 0
  · rw [if_pos q1] at h
    cases h
    exact rfl
  · rw [if_neg q1] at h
    cases h

theorem th_undo (X : Cx) (E : String) (h : h_X6_undo X = .inl E) : E = "java/lang/IllegalStateException" := by
  rw [h_X6_undo] at h
  by_cases q1 : (f_X0_isEmpty (xH X)) = 0
  · rw [if_pos q1] at h
    cases h
  · rw [if_neg q1] at h
    cases h
    exact rfl

theorem th_why (X : Cx) (len : Int32) (E : String) (h : h_X6_why X len = .inl E) : E = "java/lang/IllegalArgumentException" := by
  rw [h_X6_why] at h
  by_cases q1 : (f_X6_requireLength len) = 0
  · rw [if_pos q1] at h
    cases h
    exact rfl
  · rw [if_neg q1] at h
    cases h

theorem th_place (X : Cx) (len : Int32) (E : String) (h : h_X6_place X len = .inl E) : E = "java/lang/IllegalArgumentException" := by
  rw [h_X6_place] at h
  by_cases q1 : (f_X6_requireLength len) = 0
  · rw [if_pos q1] at h
    cases h
    exact rfl
  · rw [if_neg q1] at h
    cases h

theorem th_fits (X : Cx) (len : Int32) (way : Int32) (E : String) (h : h_X6_fits X len way = .inl E) : E = "java/lang/IllegalArgumentException" := by
  rw [h_X6_fits] at h
  by_cases q1 : (f_X6_requireLength len) = 0
  · rw [if_pos q1] at h
    cases h
    exact rfl
  · rw [if_neg q1] at h
    by_cases q2 : (f_X6_requireZeroOrOne way) = 0
    · rw [if_pos q2] at h
      cases h
      exact rfl
    · rw [if_neg q2] at h
      by_cases q3 : way = 1
      · rw [if_pos q3] at h
        cases h
      · rw [if_neg q3] at h
        cases h

theorem th_gapIn (X : Cx) (len : Int32) (E : String) (h : h_X6_gapIn X len = .inl E) : E = "java/lang/IllegalArgumentException" := by
  rw [h_X6_gapIn] at h
  by_cases q1 : (f_X6_requireLength len) = 0
  · rw [if_pos q1] at h
    cases h
    exact rfl
  · rw [if_neg q1] at h
    exact absurd h (ni_lp_xGapIn _ _ _ _)

theorem th_mover (X : Cx) (len : Int32) (w : Int32) (E : String) (h : h_X6_mover X len w = .inl E) : E = "java/lang/IllegalArgumentException" := by
  rw [h_X6_mover] at h
  by_cases q1 : (f_X6_requireLength len) = 0
  · rw [if_pos q1] at h
    cases h
    exact rfl
  · rw [if_neg q1] at h
    by_cases q2 : (f_X6_requireZeroOrOne w) = 0
    · rw [if_pos q2] at h
      cases h
      exact rfl
    · rw [if_neg q2] at h
      by_cases q3 : w = 0
      · rw [if_pos q3] at h
        cases h
      · rw [if_neg q3] at h
        by_cases q4 : (f_X4_carToShift (xN X) len) = (-1)
        · rw [if_pos q4] at h
          cases h
        · rw [if_neg q4] at h
          cases h

theorem th_jam (X : Cx) (len : Int32) (sd : Int64) (E : String) (h : h_X6_jam X len sd = .inl E) : E = "java/lang/IllegalArgumentException" := by
  rw [h_X6_jam] at h
  by_cases q1 : (f_X6_requireLength len) = 0
  · rw [if_pos q1] at h
    cases h
    exact rfl
  · rw [if_neg q1] at h
    cases h

theorem th_runScript (X : Cx) (w : Int32) (sc : Int64) (E : String) (h : h_X6_runScript X w sc = .inl E) : E = "java/lang/IllegalArgumentException" := by
  rw [h_X6_runScript] at h
  by_cases q1 : w < 1
  · rw [if_pos q1] at h
    cases h
    exact rfl
  · rw [if_neg q1] at h
    by_cases q2 : w ≤ 3
    · rw [if_pos q2] at h
      exact unit_E _ _ _ _ _ _ h
    · rw [if_neg q2] at h
      cases h
      exact rfl

theorem th_simulate (X : Cx) (sd : Int64) (w : Int32) (E : String) (h : h_X6_simulate X sd w = .inl E) : E = "java/lang/IllegalArgumentException" := by
  rw [h_X6_simulate] at h
  by_cases q1 : w < 1
  · rw [if_pos q1] at h
    cases h
    exact rfl
  · rw [if_neg q1] at h
    by_cases q2 : w ≤ 60
    · rw [if_pos q2] at h
      exact absurd h (ni_lp_xSim _ _ _ _ _)
    · rw [if_neg q2] at h
      cases h
      exact rfl

theorem th_save (X : Cx) (x : Int32) (E : String) (h : h_X6_save X x = .inl E) : E = "java/lang/IndexOutOfBoundsException" := by
  rw [h_X6_save] at h
  by_cases q1 : (f_X6_requireSlot x) = 0
  · rw [if_pos q1] at h
    cases h
    exact rfl
  · rw [if_neg q1] at h
    cases h

theorem th_restore (X : Cx) (x : Int32) (E : String) (h : h_X6_restore X x = .inl E) : E = "java/lang/IndexOutOfBoundsException" ∨ E = "java/lang/IllegalStateException" := by
  rw [h_X6_restore] at h
  by_cases q1 : (f_X6_requireSlot x) = 0
  · rw [if_pos q1] at h
    cases h
    exact .inl rfl
  · rw [if_neg q1] at h
    by_cases q2 : (f_X1_isFilled (xS X) x) = 0
    · rw [if_pos q2] at h
      cases h
      exact .inr rfl
    · rw [if_neg q2] at h
      cases h
