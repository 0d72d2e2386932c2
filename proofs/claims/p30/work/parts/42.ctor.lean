/-! rows of constructors: the new cell lies at the heap's end -/
section CT
variable {p : Program} {l : Launch} {e : Env} {R : Room} {s : State} {m : MethodId} {args : Array Value} {below : List Frame} {meth : Method} {c : Code} {H : Heap} {locs : List Loc} {cells slots : Nat} {Q : State → Prop}
variable {cc : ByteArray} {pc : Nat} {ls : Array Slot} {rest st0 : List Value} {a : Array Value} {A fr : Nat → Prop} {H0 : Heap} {mc ms : Nat} {G : GG} {ws : va_W}
def frm (a : Nat) : Nat → Prop := fun q => a ≤ q
theorem cl_cv {P : Heap → Prop} (hr : va_Run p l e R s m args below meth c H locs cells slots mc ms (F0 m pc ls st0) rest (QM none P fr a) fr) (hS : va_S A H0 H locs) (hA : ∀ q, fr q → A q)
    (kk : ∀ (H1 : Heap) (locs1 : List Loc), P H1 → H.size ≤ H1.size → (∀ q : Nat, q < H.size → ¬ fr q → H1[q]? = H[q]?) → va_S A H0 H1 locs1 → W p l e R s m args below meth c H1 locs1 (cells + mc) (slots + ms) Q (F0 m (pc + 3) ls rest)) : W p l e R s m args below meth c H locs cells slots Q (F0 m pc ls st0) := by
  intro T hT X
  obtain ⟨v', st₀, t, T', L, h0, X', hL, e1, -, ⟨hv, hp, hz, hk⟩, st⟩ := hr T hT X
  cases hv
  rw [h0] at hz hk
  obtain ⟨t2, a1, b1⟩ := kk T'.heap (locs ++ L) (by rw [e1]; exact hp) (by rw [e1]; exact hz) (fun q h g => by rw [e1]; exact hk q h g) (S_app hS (by rw [e1]; exact hz) (fun q h g => by rw [e1]; exact hk q h g) hL hA) T' rfl X'
  exact ⟨t2, st t2 a1, b1⟩
theorem cl_zv {P : Heap → Prop} (hr : va_Run p l e R s m args below meth c H locs cells slots 0 0 (F0 m pc ls st0) rest (QM none P fr a) fr) (hsz : H.size = s.heap.size + cells) (hS : va_S A H0 H locs) (hA : ∀ q, fr q → A q)
    (kk : ∀ (H1 : Heap) (locs1 : List Loc), P H1 → H1.size = H.size → (∀ q : Nat, q < H.size → ¬ fr q → H1[q]? = H[q]?) → va_S A H0 H1 locs1 → W p l e R s m args below meth c H1 locs1 cells slots Q (F0 m (pc + 3) ls rest)) : W p l e R s m args below meth c H locs cells slots Q (F0 m pc ls st0) := by
  intro T hT X
  obtain ⟨v', st₀, t, T', L, h0, X', hL, e1, -, ⟨hv, hp, hz, hk⟩, st⟩ := hr T hT X
  cases hv
  rw [h0] at hz hk
  have h9 := X'.heapSize
  rw [e1] at h9
  obtain ⟨t2, a1, b1⟩ := kk T'.heap (locs ++ L) (by rw [e1]; exact hp) (by rw [e1]; exact Nat.le_antisymm (by omega) hz) (fun q h g => by rw [e1]; exact hk q h g) (S_app hS (by rw [e1]; exact hz) (fun q h g => by rw [e1]; exact hk q h g) hL hA) T' rfl X'
  exact ⟨t2, st t2 a1, b1⟩
theorem one_k {x : Nat × va_E} {k : Nat} {q : Nat × va_E} (h : ([x] : va_W)[k]? = some q) : q = x := by
  match k, h with
  | 0, h => exact (Option.some.inj h).symm
theorem newa_n (hexec : p.tables.exec = Jvm.exec) (hb : c.code = cc) {atype : ArrayType} (harr : (Cond.arrayClass (newarray.typeOf atype)).before args s = true) {ty : FieldType} (hty : newarray.typeOf atype = ty) (hO : Ok G s) (k : Nat) (hk : (gTys G)[k]? = some (G.2 k, ty)) (hP : va_P G.1 vwCl ws H) (hS : va_S A H0 H locs)
    {n : Int32} {N h : Nat} {a0 : vp_A} (ha : vp_cell (G.2 k) a0 = arrV (G.2 k) N (fun _ => defaultValue ty)) (hn : ¬ n < 0) (hN : n.toNatClampNeg = N) (hbytes : N * componentBytes ty ≤ 536870912) (hcells : cells + 1 ≤ R.cells) (hslots : slots + N ≤ R.slots) (hh : H.size = h) (hdg : decode cc pc = .ok (.newarray atype, 2))
    (kk : ∀ H1 : Heap, va_P G.1 vwCl (ws ++ [(h, .inl (G.2 k, a0))]) H1 → H1.size = h + 1 → va_S A H0 H1 locs → W p l e R s m args below meth c H1 locs (cells + 1) (slots + N) Q (F0 m (pc + 2) ls (.ref h :: rest))) : W p l e R s m args below meth c H locs cells slots Q (F0 m pc ls (.int n :: rest)) := by
  subst hty
  subst hh
  refine va_newaK hexec hb harr rfl hdg rfl hn hN hbytes hcells hslots rfl fun H1 cA e1 z1 o1 hAr hNm => ?_
  have hc : cA = G.2 k := by
    have h2 := (hO.1.2 k _ hk).2
    have h3 : s.vm.findClass ("[" ++ (newarray.typeOf atype).toString) = some (G.2 k) := by cases atype <;> exact h2
    exact Option.some.inj (hNm.symm.trans h3)
  rw [hc] at e1
  have hk' : ∀ (k : Nat) (x : Nat × va_E), ws[k]? = some x → H1[x.1]? = H[x.1]? := fun k x hx => o1 x.1 ((hP k x hx).lt)
  refine kk H1 ((hP.kept hk').app (fun k x hx => ?_)) z1 ⟨Nat.le_trans hS.1 (by omega), fun x h1 h2 => (o1 x (Nat.lt_of_lt_of_le h1 hS.1)).trans (hS.2.1 x h1 h2), hS.2.2⟩
  rw [one_k hx]
  show H1[H.size]? = some (vp_cell _ _)
  rw [ha]
  exact e1
theorem newq_n (hexec : p.tables.exec = Jvm.exec) (hb : c.code = cc) {own C : String} {index : Nat} (hown : s.vm.findClass own = some m.cls) (hclink : (Cond.classLink own index C).before args s = true) (hover : va_AO C s) (hO : Ok G s) (k : Nat) (hk : (gTys G)[k]? = some (G.2 k, .object C)) (hP : va_P G.1 vwCl ws H) (hS : va_S A H0 H locs)
    {n : Int32} {N h : Nat} (hn : ¬ n < 0) (hN : n.toNatClampNeg = N) (hbytes : N * 4 ≤ 536870912) (hcells : cells + 1 ≤ R.cells) (hslots : slots + N ≤ R.slots) (hh : H.size = h) (hdg : decode cc pc = .ok (.anewarray index, 3))
    (kk : ∀ H1 : Heap, va_P G.1 vwCl (ws ++ [(h, .inl (G.2 k, N, .inr (.inr (.inr (.inr (fun _ => none))))))]) H1 → H1.size = h + 1 → va_S A H0 H1 locs → W p l e R s m args below meth c H1 locs (cells + 1) (slots + N) Q (F0 m (pc + 3) ls (.ref h :: rest))) : W p l e R s m args below meth c H locs cells slots Q (F0 m pc ls (.int n :: rest)) := by
  subst hN
  subst hh
  refine W.anew hexec hb hown hclink (va_AO.use hover) rfl hdg rfl hn hbytes hcells hslots fun cA kA comp f1 f2 f3 f4 => ?_
  have hc : cA = G.2 k := by
    obtain ⟨_, _, _, _, _, h4⟩ := (hO.1.2 k _ hk).2
    exact Option.some.inj (f1.symm.trans h4)
  rw [hc]
  generalize hH1 : H.push ({ cls := G.2 k, slots := Array.replicate n.toNatClampNeg .null, vm := .none } : Cell) = H1
  have z1 : H1.size = H.size + 1 := by rw [← hH1, Array.size_push]
  have e1 : H1[H.size]? = some (arrV (G.2 k) n.toNatClampNeg (fun _ => .null)) := by rw [← hH1, Array.getElem?_push_size, ← arrV_new]
  have o1 : ∀ q : Nat, q < H.size → H1[q]? = H[q]? := fun q hq => by rw [← hH1, Array.getElem?_push, if_neg (Nat.ne_of_lt hq)]
  have hk' : ∀ (k : Nat) (x : Nat × va_E), ws[k]? = some x → H1[x.1]? = H[x.1]? := fun k x hx => o1 x.1 ((hP k x hx).lt)
  refine kk H1 ((hP.kept hk').app (fun k x hx => ?_)) z1 ⟨Nat.le_trans hS.1 (by omega), fun x h1 h2 => (o1 x (Nat.lt_of_lt_of_le h1 hS.1)).trans (hS.2.1 x h1 h2), hS.2.2⟩
  rw [one_k hx]
  exact e1
theorem new_n (hexec : p.tables.exec = Jvm.exec) (hb : c.code = cc) {own C : String} {T : u_T} {N ci index : Nat} {Ts : List Cond} {tys : List (ClassId × FieldType)} (hts : ∀ w ∈ Ts, w.before args s = true) (hin : ∀ w ∈ u_ws C T N, w ∈ Ts) (ty : Nat → FieldType) (hty : ∀ k, k < N → parseFieldDescriptor (T k).2.2.1 = some (ty k)) (hown : s.vm.findClass own = some m.cls) (hcl : (Cond.classLink own index C).before args s = true) (hinst : (Cond.instantiable C N).before args s = true) (hini : (Cond.initialized C).before args s = true)
    (hK : va_K G.1 vwCl tys s) (hP : va_P G.1 vwCl ws H) (hS : va_S A H0 H locs) (hc : vwCl[ci]? = some (C, T, N)) {fs : List Value} (hfs : ∀ j, j < N → defaultValue (ty j) = vp_V fs j) (hcells : cells + 1 ≤ R.cells) (hslots : slots + N ≤ R.slots) {h : Nat} (hh : H.size = h) (hdg : decode cc pc = .ok (.new index, 3))
    (kk : ∀ H1 : Heap, va_P G.1 vwCl (ws ++ [(h, .inr (ci, fs))]) H1 → H1.size = h + 1 → va_S A H0 H1 locs → W p l e R s m args below meth c H1 locs (cells + 1) (slots + N) Q (F0 m (pc + 3) ls (.ref h :: rest))) : W p l e R s m args below meth c H locs cells slots Q (F0 m pc ls rest) := by
  subst hh
  have hKn := hK.1 ci _ hc
  refine W.newcK hexec hb hown hcl hinst hini rfl hdg hcells hslots hKn.2.1 rfl fun H1 kC hkC e1 z1 o1 => ?_
  have hk' : ∀ (k : Nat) (x : Nat × va_E), ws[k]? = some x → H1[x.1]? = H[x.1]? := fun k x hx => o1 x.1 ((hP k x hx).lt)
  refine kk H1 ((hP.kept hk').app (fun k x hx => ?_)) z1 ⟨Nat.le_trans hS.1 (by omega), fun x h1 h2 => (o1 x (Nat.lt_of_lt_of_le h1 hS.1)).trans (hS.2.1 x h1 h2), hS.2.2⟩
  rw [one_k hx]
  exact ⟨_, hc, (u_born ty hts hin hKn hkC e1 hty).to hfs⟩
def PcA (G : GG) (av : List Value) (P : Heap → Prop) : Array Value → State → Prop := fun v U => v = av.toArray ∧ P U.heap ∧ Ok G U ∧ va_AO RX4 U
theorem PcA_blind {av : List Value} {P : Heap → Prop} : FrameBlind (PcA G av P) := fun _ U g mk h => ⟨h.1, h.2.1, h.2.2.1.calling, h.2.2.2.moved (Vm.Alike.refl U.vm)⟩
variable {y : MethodName} {bytes : ByteArray} {maxL nL n index : Nat} {wsc : List Cond} {rm : Room} {Qc : Array Value → State → Outcome → State → Prop} {free : Addr → Prop} {Ts : List Cond} {own C host : String} {b : Addr} {As : List Value} {P : Heap → Prop}
theorem rI (S : CallFix p m c cc nL s args Ts own) (hM : Met l y wsc rm (PcA G (.ref b :: As) P) Qc mc ms free) (cw : CallB R s args own index y bytes maxL none wsc rm mc ms n ∧ y.name = "<init>" ∧ (Cond.instanceMethod y).before args s = true)
    (hP : P H) (hO : Ok G s) (hAO : va_AO RX4 s)
    (hn : As.length = n) (hsize : ls.size = nL) (hW : (rest.map fun v => v.category).sum ≤ 8) (hdg : decode cc pc = .ok (.invokespecial index, 3)) (hf : cells + mc ≤ R.cells ∧ slots + ms ≤ R.slots) :
    va_Run p l e R s m args below meth c H locs cells slots mc ms (F0 m pc ls (As.reverse ++ .ref b :: rest)) rest (Qc (Value.ref b :: As).toArray) free :=
  va_runI S hM cw ⟨PcA_blind, fun U hU hW => ⟨rfl, by rw [hU]; exact hP, hO.warm hW, hAO.moved hW.alike⟩⟩ rfl hn hsize rfl (lv_room hW) hdg hf
theorem rIN (S : CallFix p m c cc nL s args Ts own) (hM : Met l y wsc rm (PcA G (.ref b :: As) P) Qc mc ms free) (cw : va_CN R s args own index y host bytes maxL none wsc rm mc ms n ∧ y.name = "<init>" ∧ (Cond.instanceMethod y).before args s = true)
    (hP : P H) (hO : Ok G s) (hAO : va_AO RX4 s)
    (hn : As.length = n) (hsize : ls.size = nL) (hW : (rest.map fun v => v.category).sum ≤ 8) (hdg : decode cc pc = .ok (.invokespecial index, 3)) (hf : cells + mc ≤ R.cells ∧ slots + ms ≤ R.slots) :
    va_Run p l e R s m args below meth c H locs cells slots mc ms (F0 m pc ls (As.reverse ++ .ref b :: rest)) rest (Qc (Value.ref b :: As).toArray) free :=
  va_runIN S hM cw ⟨PcA_blind, fun U hU hW => ⟨rfl, by rw [hU]; exact hP, hO.warm hW, hAO.moved hW.alike⟩⟩ rfl hn hsize rfl (lv_room hW) hdg hf
theorem metC {av : List Value} {ws' : List Cond} (hy : plainName y.cls = true) (hyn : y.name = "<init>") (hw : wsc = Cond.code y cc maxL none :: ws')
    (body : ∀ (p : Program) (e : Env) (s : State) (m : MethodId) (below : List Frame) (meth : Method) (c : Code), p.tables.exec = Jvm.exec → c.code = cc → meth.sig.returnType = none → c.maxLocals = maxL → s.vm.findClass y.cls = some m.cls →
      (∀ w ∈ wsc, w.before av.toArray s = true) → meth.locks = false → meth.name = "<init>" → P s.heap → Ok G s → va_AO RX4 s →
      W p l e (headSpec wsc rm).room s m av.toArray below meth c s.heap [] 0 0 (MQ below Qc av.toArray s mc ms free) (entryFrame m av.toArray maxL)) : Met l y wsc rm (PcA G av P) Qc mc ms free := by
  refine Met.ofW (cc := cc) (maxL := maxL) (ret := none) hy hw ?_
  intro p e s m args below meth c s₁ B hml hv
  obtain ⟨rfl, hP, hO, hAO⟩ := hv
  exact body p e s m below meth c B.exec B.bytes B.returns hml (findClass_of_methodNamed B.named) (atoms_spec (ws := wsc) B.pre) B.notSynchronized ((name_of_methodNamed B.named B.method).1.trans hyn) hP hO hAO
end CT
def zR : Rw := fun _ => 0
theorem W_size {p : Program} {l : Launch} {e : Env} {R : Room} {s : State} {m : MethodId} {args : Array Value} {below : List Frame} {meth : Method} {c : Code} {H : Heap} {locs : List Loc} {cells slots : Nat} {Q : State → Prop} {g : JFrame} (kk : H.size ≤ s.heap.size + cells → W p l e R s m args below meth c H locs cells slots Q g) : W p l e R s m args below meth c H locs cells slots Q g :=
  fun T hT X => kk (by have h := X.heapSize; rw [hT] at h; exact h) T hT X
/-- cells one behind the other from a on -/
def Adr (a : Nat) (ws : va_W) : Prop := ∀ (k : Nat) (q : Nat × va_E), ws[k]? = some q → q.1 = a + k
theorem Adr.one {a : Nat} {e : va_E} : Adr a [(a, e)] := fun k q h => by
  match k, h with
  | 0, h => cases h; rfl
theorem size_eq {h s c a n : Nat} (hs : s = a + 1) (h0 : h ≤ s + c) (h8 : a + n ≤ h) (hc : 1 + c = n) : h = a + n := by omega
theorem Adr.of {a n : Nat} {ws : va_W} (h : ws.map (fun p => p.1) = (List.range n).map (fun i => a + i)) : Adr a ws := fun k q hk => by
  have h1 : (ws.map (fun p => p.1))[k]? = some q.1 := by rw [List.getElem?_map, hk]; rfl
  rw [h, List.getElem?_map] at h1
  by_cases c : k < n
  · rw [List.getElem?_range c] at h1
    exact (Option.some.inj h1).symm
  · rw [List.getElem?_eq_none (by rw [List.length_range]; omega)] at h1
    cases h1
theorem Adr.app {a b : Nat} {w1 w2 : va_W} (h1 : Adr a w1) (h2 : Adr b w2) (hb : b = a + w1.length) : Adr a (w1 ++ w2) := fun k q h => by
  subst hb
  by_cases c : k < w1.length
  · rw [List.getElem?_append_left c] at h
    exact h1 k q h
  · rw [List.getElem?_append_right (by omega)] at h
    have := h2 _ q h
    omega
theorem Adr.D {a : Nat} {ws : va_W} {A : Nat → Prop} (h : Adr a ws) (hA : ∀ q, a ≤ q → q < a + ws.length → A q) : va_D A ws := seq_D a ws h hA
theorem Adr.lt {a : Nat} {ws : va_W} (h : Adr a ws) {k : Nat} {q : Nat × va_E} (hk : ws[k]? = some q) : a ≤ q.1 ∧ q.1 < a + ws.length := by
  have h1 := h k q hk
  have h2 := (List.getElem?_eq_some_iff.mp hk).1
  omega
theorem P_app {D : va_G} {cl : List vw_C} {w1 w2 : va_W} {H : Heap} : va_P D cl (w1 ++ w2) H ↔ va_P D cl w1 H ∧ va_P D cl w2 H := by
  constructor
  · intro h
    refine ⟨fun k q hk => h k q ?_, fun k q hk => h (w1.length + k) q ?_⟩
    · rw [List.getElem?_append_left (List.getElem?_eq_some_iff.mp hk).1]
      exact hk
    · rw [List.getElem?_append_right (by omega), show w1.length + k - w1.length = k by omega]
      exact hk
  · intro h k q hk
    by_cases c : k < w1.length
    · rw [List.getElem?_append_left c] at hk
      exact h.1 k q hk
    · rw [List.getElem?_append_right (by omega)] at hk
      exact h.2 _ q hk
/-- what lies outside of a frame stays -/
theorem P_out {D : va_G} {cl : List vw_C} {ws : va_W} {H H1 : Heap} {fr : Nat → Prop} {a : Nat} (hP : va_P D cl ws H) (hA : Adr a ws) (hk : ∀ q : Nat, q < H.size → ¬ fr q → H1[q]? = H[q]?) (hd : ∀ q, a ≤ q → q < a + ws.length → ¬ fr q) : va_P D cl ws H1 :=
  mvP hP hk fun _ _ hx => hd _ (hA.lt hx).1 (hA.lt hx).2
/-- streets, one behind the other -/
def pool (G : GG) (a : Nat) (f : Nat → St) : Nat → va_W
  | 0 => []
  | n + 1 => pool G a f n ++ stW G (a + 9 * n) (f n)
theorem pool_len (G : GG) (a : Nat) (f : Nat → St) : ∀ n, (pool G a f n).length = 9 * n := by
  intro n
  induction n with
  | zero => rfl
  | succ n ih => rw [pool, List.length_append, ih, st_len]; omega
theorem pool_adr (G : GG) (a : Nat) (f : Nat → St) : ∀ n, Adr a (pool G a f n) := by
  intro n
  induction n with
  | zero => intro k q h; exact absurd h (by simp [pool])
  | succ n ih => exact ih.app (st_adr G _ _) (by rw [pool_len])
theorem pool_P {G : GG} {a : Nat} {f : Nat → St} {H : Heap} : ∀ {n : Nat}, va_P G.1 vwCl (pool G a f n) H ↔ ∀ i, i < n → Str G (a + 9 * i) (f i) H := by
  intro n
  induction n with
  | zero => exact ⟨fun _ i hi => by omega, fun _ k q h => absurd h (by simp [pool])⟩
  | succ n ih =>
    rw [pool, P_app, ih]
    constructor
    · intro h i hi
      by_cases e : i = n
      · rw [e]; exact h.2
      · exact h.1 i (by omega)
    · intro h
      exact ⟨fun i hi => h i (by omega), h n (by omega)⟩
/-- the references to n streets from a on -/
def rk (a n : Nat) : Nat → Option Nat := fun i => if i < n then some (a + 9 * i) else none
theorem rk_up (a n : Nat) : va_up (rk a n) n (some (a + 9 * n)) = rk a (n + 1) := by
  funext i
  unfold va_up rk
  by_cases c : i = n
  · rw [if_pos c, c, if_pos (by omega)]
  · rw [if_neg c]
    by_cases c2 : i < n
    · rw [if_pos c2, if_pos (by omega)]
    · rw [if_neg c2, if_neg (by omega)]
theorem rk_0 (a : Nat) : rk a 0 = fun _ => none := by
  funext i
  exact if_neg (by omega)
