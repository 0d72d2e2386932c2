/-! the shape of contracts: what the tables say (Ok), starts (PcH), ends (QP: nothing written; QM: written inside fr) -/
abbrev GG : Type := va_G × (Nat → ClassId)
def nestL : List Cond := [.methodLinkNest "CurbCars" 9 ⟨"CurbCars$StreetText", "<init>", "()V"⟩ "CurbCars", .methodLinkNest "CurbCars" 18 ⟨"CurbCars$Street", "<init>", "()V"⟩ "CurbCars", .fieldLinkNest "CurbCars" 151 "CurbCars$Street" "cells" "[I" "CurbCars", .fieldLinkNest "CurbCars" 165 "CurbCars$Street" "gapSizes" "[I" "CurbCars", .fieldLinkNest "CurbCars" 117 "CurbCars$Street" "lengths" "[I" "CurbCars", .fieldLinkNest "CurbCars" 125 "CurbCars$Street" "stays" "[I" "CurbCars", .fieldLinkNest "CurbCars$Script" 46 "CurbCars$Street" "states" "[I" "CurbCars", .fieldLinkNest "CurbCars" 128 "CurbCars$Street" "states" "[I" "CurbCars", .fieldLinkNest "CurbCars" 131 "CurbCars$Street" "places" "[I" "CurbCars", .fieldLinkNest "CurbCars" 134 "CurbCars$Street" "parkedMinutes" "[I" "CurbCars", .fieldLinkNest "CurbCars" 137 "CurbCars$Street" "roundMinutes" "[I" "CurbCars", .fieldLinkNest "CurbCars" 89 "CurbCars$Street" "came" "I" "CurbCars", .fieldLinkNest "CurbCars" 96 "CurbCars$Street" "clock" "I" "CurbCars", .fieldLinkNest "CurbCars" 268 "CurbCars$Street" "chance" "J" "CurbCars", .fieldLinkNest "CurbCars" 256 "CurbCars$Street" "rule" "I" "CurbCars", .methodLinkNest "CurbCars" 28 ⟨"CurbCars$History", "<init>", "()V"⟩ "CurbCars", .methodLinkNest "CurbCars$History" 17 ⟨"CurbCars$Street", "<init>", "()V"⟩ "CurbCars", .methodLinkNest "CurbCars" 35 ⟨"CurbCars$SaveSlots", "<init>", "()V"⟩ "CurbCars", .methodLinkNest "CurbCars$SaveSlots" 21 ⟨"CurbCars$Street", "<init>", "()V"⟩ "CurbCars", .methodLinkNest "CurbCars" 47 ⟨"CurbCars$StreetText", "isFull", "()Z"⟩ "CurbCars", .methodLinkNest "CurbCars" 56 ⟨"CurbCars$StreetText", "add", "(C)I"⟩ "CurbCars", .methodLinkNest "CurbCars" 64 ⟨"CurbCars$StreetText", "firstError", "()I"⟩ "CurbCars", .methodLinkNest "CurbCars" 69 ⟨"CurbCars$Street", "makeNew", "()V"⟩ "CurbCars", .methodLinkNest "CurbCars" 72 ⟨"CurbCars$History", "forget", "()V"⟩ "CurbCars", .methodLinkNest "CurbCars" 75 ⟨"CurbCars$SaveSlots", "empty", "()V"⟩ "CurbCars", .methodLinkNest "CurbCars" 77 ⟨"CurbCars$StreetText", "hasLetter", "(I)Z"⟩ "CurbCars", .methodLinkNest "CurbCars" 81 ⟨"CurbCars$StreetText", "doCommand", "(ILCurbCars$Street;)I"⟩ "CurbCars", .methodLinkNest "CurbCars$StreetText" 53 ⟨"CurbCars$Street", "putHydrant", "(IZ)I"⟩ "CurbCars", .methodLinkNest "CurbCars$Street" 80 ⟨"CurbCars", "isCell", "(I)Z"⟩ "CurbCars", .methodLinkNest "CurbCars$Street" 84 ⟨"CurbCars", "get", "([II)I"⟩ "CurbCars", .methodLinkNest "CurbCars$Street" 88 ⟨"CurbCars", "put", "([III)V"⟩ "CurbCars", .methodLinkNest "CurbCars$StreetText" 62 ⟨"CurbCars$Street", "arrive", "(II)I"⟩ "CurbCars", .methodLinkNest "CurbCars$Street" 113 ⟨"CurbCars", "isLength", "(I)Z"⟩ "CurbCars", .methodLinkNest "CurbCars$Street" 116 ⟨"CurbCars", "isStay", "(I)Z"⟩ "CurbCars", .methodLinkNest "CurbCars$Street" 96 ⟨"CurbCars", "nextChance", "(J)J"⟩ "CurbCars", .methodLinkNest "CurbCars$StreetText" 65 ⟨"CurbCars$Street", "depart", "(II)I"⟩ "CurbCars", .methodLinkNest "CurbCars$StreetText" 68 ⟨"CurbCars$Street", "shift", "(II)I"⟩ "CurbCars", .methodLinkNest "CurbCars$StreetText" 71 ⟨"CurbCars$Street", "changeSetting", "(II)I"⟩ "CurbCars", .methodLinkNest "CurbCars$Street" 72 ⟨"CurbCars", "isSettingValue", "(II)Z"⟩ "CurbCars", .methodLinkNest "CurbCars$StreetText" 74 ⟨"CurbCars$Street", "passMinutes", "(I)I"⟩ "CurbCars", .methodLinkNest "CurbCars$Street" 152 ⟨"CurbCars", "isMinutes", "(I)Z"⟩ "CurbCars", .methodLinkNest "CurbCars" 85 ⟨"CurbCars$StreetText", "commandSize", "(I)I"⟩ "CurbCars", .methodLinkNest "CurbCars" 93 ⟨"CurbCars$Street", "carsInState", "(I)I"⟩ "CurbCars", .methodLinkNest "CurbCars" 99 ⟨"CurbCars$Street", "gapCount", "()I"⟩ "CurbCars", .methodLinkNest "CurbCars" 102 ⟨"CurbCars$Street", "longestGap", "()I"⟩ "CurbCars", .methodLinkNest "CurbCars" 105 ⟨"CurbCars$Street", "cellsWith", "(I)I"⟩ "CurbCars", .methodLinkNest "CurbCars" 108 ⟨"CurbCars$Street", "allParkedMinutes", "()I"⟩ "CurbCars", .methodLinkNest "CurbCars" 310 ⟨"CurbCars$Street", "isCar", "(I)Z"⟩ "CurbCars", .methodLinkNest "CurbCars" 140 ⟨"CurbCars$Street", "isParked", "(I)Z"⟩ "CurbCars", .methodLinkNest "CurbCars" 143 ⟨"CurbCars$Street", "minutesLeft", "(I)I"⟩ "CurbCars", .methodLinkNest "CurbCars" 154 ⟨"CurbCars$Street", "gapStart", "(I)I"⟩ "CurbCars", .methodLinkNest "CurbCars" 168 ⟨"CurbCars$Street", "settingOf", "(I)I"⟩ "CurbCars", .methodLinkNest "CurbCars" 195 ⟨"CurbCars$Street", "allCame", "()Z"⟩ "CurbCars", .methodLinkNest "CurbCars" 179 ⟨"CurbCars$History", "remember", "(LCurbCars$Street;)V"⟩ "CurbCars", .methodLinkNest "CurbCars$History" 25 ⟨"CurbCars", "streetOf", "([LCurbCars$Street;I)LCurbCars$Street;"⟩ "CurbCars", .methodLinkNest "CurbCars$History" 29 ⟨"CurbCars$Street", "copyFrom", "(LCurbCars$Street;)V"⟩ "CurbCars", .methodLinkNest "CurbCars$Street" 68 ⟨"CurbCars", "copyRow", "([I[I)V"⟩ "CurbCars", .methodLinkNest "CurbCars" 200 ⟨"CurbCars$Street", "arrive", "(II)I"⟩ "CurbCars", .methodLinkNest "CurbCars" 207 ⟨"CurbCars$Street", "depart", "(II)I"⟩ "CurbCars", .methodLinkNest "CurbCars" 210 ⟨"CurbCars$Street", "canShift", "(II)Z"⟩ "CurbCars", .methodLinkNest "CurbCars" 216 ⟨"CurbCars$Street", "shift", "(II)I"⟩ "CurbCars", .methodLinkNest "CurbCars" 224 ⟨"CurbCars$Street", "passMinutes", "(I)I"⟩ "CurbCars", .methodLinkNest "CurbCars" 232 ⟨"CurbCars$Street", "changeSetting", "(II)I"⟩ "CurbCars", .methodLinkNest "CurbCars" 235 ⟨"CurbCars$History", "isEmpty", "()Z"⟩ "CurbCars", .methodLinkNest "CurbCars" 240 ⟨"CurbCars$History", "takeBack", "(LCurbCars$Street;)I"⟩ "CurbCars", .methodLinkNest "CurbCars" 244 ⟨"CurbCars$Street", "reasonAgainst", "(I)I"⟩ "CurbCars", .methodLinkNest "CurbCars" 247 ⟨"CurbCars$Street", "chosenPlace", "(I)I"⟩ "CurbCars", .methodLinkNest "CurbCars" 250 ⟨"CurbCars$Street", "fittingByGaps", "(I)I"⟩ "CurbCars", .methodLinkNest "CurbCars" 253 ⟨"CurbCars$Street", "copyFrom", "(LCurbCars$Street;)V"⟩ "CurbCars", .methodLinkNest "CurbCars" 259 ⟨"CurbCars$Street", "fillWith", "(I)I"⟩ "CurbCars", .methodLinkNest "CurbCars" 262 ⟨"CurbCars$Street", "carToShift", "(I)I"⟩ "CurbCars", .methodLinkNest "CurbCars" 265 ⟨"CurbCars$Street", "placeToShiftTo", "(II)I"⟩ "CurbCars", .methodLinkNest "CurbCars" 299 ⟨"CurbCars$SaveSlots", "keep", "(ILCurbCars$Street;)V"⟩ "CurbCars", .methodLinkNest "CurbCars$SaveSlots" 22 ⟨"CurbCars", "streetOf", "([LCurbCars$Street;I)LCurbCars$Street;"⟩ "CurbCars", .methodLinkNest "CurbCars$SaveSlots" 26 ⟨"CurbCars$Street", "copyFrom", "(LCurbCars$Street;)V"⟩ "CurbCars", .methodLinkNest "CurbCars" 302 ⟨"CurbCars$SaveSlots", "isFilled", "(I)Z"⟩ "CurbCars", .methodLinkNest "CurbCars" 307 ⟨"CurbCars$SaveSlots", "giveBack", "(ILCurbCars$Street;)V"⟩ "CurbCars", .methodLinkNest "CurbCars" 173 ⟨"CurbCars$Street", "allowsHydrant", "(IZ)Z"⟩ "CurbCars", .methodLinkNest "CurbCars" 183 ⟨"CurbCars$Street", "putHydrant", "(IZ)I"⟩ "CurbCars", .methodLinkNest "CurbCars" 278 ⟨"CurbCars$Script", "succeeds", "(ILCurbCars$Street;)Z"⟩ "CurbCars", .methodLinkNest "CurbCars$Script" 57 ⟨"CurbCars$Street", "arrive", "(II)I"⟩ "CurbCars", .methodLinkNest "CurbCars$Script" 60 ⟨"CurbCars$Street", "isParked", "(I)Z"⟩ "CurbCars", .methodLinkNest "CurbCars$Script" 16 ⟨"CurbCars$Street", "depart", "(II)I"⟩ "CurbCars", .methodLinkNest "CurbCars$Script" 22 ⟨"CurbCars$Street", "shift", "(II)I"⟩ "CurbCars", .methodLinkNest "CurbCars$Script" 25 ⟨"CurbCars$Street", "passMinutes", "(I)I"⟩ "CurbCars", .methodLinkNest "CurbCars$Script" 29 ⟨"CurbCars$Street", "changeSetting", "(II)I"⟩ "CurbCars", .methodLinkNest "CurbCars$Script" 32 ⟨"CurbCars$Street", "putHydrant", "(IZ)I"⟩ "CurbCars", .methodLinkNest "CurbCars$Script" 36 ⟨"CurbCars", "isLength", "(I)Z"⟩ "CurbCars", .methodLinkNest "CurbCars$Script" 40 ⟨"CurbCars$Street", "reasonAgainst", "(I)I"⟩ "CurbCars", .methodLinkNest "CurbCars$Script" 43 ⟨"CurbCars$Street", "isCar", "(I)Z"⟩ "CurbCars", .methodLinkNest "CurbCars$Script" 50 ⟨"CurbCars", "get", "([II)I"⟩ "CurbCars", .methodLinkNest "CurbCars$Script" 54 ⟨"CurbCars$Street", "fittingByGaps", "(I)I"⟩ "CurbCars", .methodLinkNest "CurbCars" 290 ⟨"CurbCars$Simulation", "doTurn", "(ILCurbCars$Street;)V"⟩ "CurbCars", .methodLinkNest "CurbCars$Simulation" 9 ⟨"CurbCars$Street", "arrive", "(II)I"⟩ "CurbCars", .methodLinkNest "CurbCars$Simulation" 15 ⟨"CurbCars$Street", "depart", "(II)I"⟩ "CurbCars", .methodLinkNest "CurbCars$Simulation" 18 ⟨"CurbCars$Street", "putHydrant", "(IZ)I"⟩ "CurbCars", .methodLinkNest "CurbCars$Simulation" 32 ⟨"CurbCars$Street", "changeSetting", "(II)I"⟩ "CurbCars", .methodLinkNest "CurbCars$Simulation" 28 ⟨"CurbCars$Street", "passMinutes", "(I)I"⟩ "CurbCars"]
def isNest (w : Cond) : Bool := match w with
  | .methodLinkNest _ _ _ _ => true
  | .fieldLinkNest _ _ _ _ _ _ => true
  | _ => false
theorem nestL_ok : nestL.all isNest = true := by decide +kernel
theorem nest_warm {w : Cond} (hw : isNest w = true) {s U : State} (hW : s.WarmedH U.vm) (h : va_Nw w s) : va_Nw w U := by
  cases w <;> first | exact va_Nw.warmM hW h | exact va_Nw.warmF hW h | exact absurd hw (by simp [isNest])
theorem nest_same {w : Cond} (hw : isNest w = true) {s U : State} (hW : s.vm = U.vm) (h : va_Nw w s) : va_Nw w U := by
  cases w <;> first | exact va_Nw.same rfl hW h | exact absurd hw (by simp [isNest])
def gTys (G : GG) : List (ClassId × FieldType) := [(G.2 0, .int), (G.2 1, .char), (G.2 2, .boolean), (G.2 3, .object "CurbCars$Street")]
def Ok (G : GG) (U : State) : Prop := va_K G.1 vwCl (gTys G) U ∧ ∀ w ∈ nestL, va_Nw w U
theorem Ok.warm {G : GG} {s U : State} (hW : s.WarmedH U.vm) (h : Ok G s) : Ok G U :=
  ⟨va_K.moved hW.alike h.1, fun w hw => nest_warm (List.all_eq_true.mp nestL_ok w hw) hW (h.2 w hw)⟩
theorem Ok.calling {G : GG} {U : State} {g : JFrame} {mk : MethodId} {a : Array Value} (h : Ok G U) : Ok G (U.calling g mk a) :=
  ⟨va_K.moved (u := U) (U := U.calling g mk a) (Vm.Alike.refl U.vm) h.1, fun w hw => nest_same (List.all_eq_true.mp nestL_ok w hw) (s := U) (U := U.calling g mk a) rfl (h.2 w hw)⟩
def PcH (G : GG) (av : List Value) (P : Heap → Prop) : Array Value → State → Prop := fun v U => v = av.toArray ∧ P U.heap ∧ Ok G U
theorem PcH_blind {G : GG} {av : List Value} {P : Heap → Prop} : FrameBlind (PcH G av P) := fun _ _ _ _ h => ⟨h.1, h.2.1, h.2.2.calling⟩
def QP (v : Option Value) : Array Value → State → Outcome → State → Prop := fun _ st oc t => oc = .returned v ∧ t.heap = st.heap
def QM (v : Option Value) (P : Heap → Prop) (fr : Nat → Prop) : Array Value → State → Outcome → State → Prop := fun _ st oc t => oc = .returned v ∧ P t.heap ∧ va_F fr st t
def noA : Nat → Prop := fun _ => False
theorem S_app {A fr : Nat → Prop} {H0 H H1 : Heap} {locs L : List Loc} (h : va_S A H0 H locs) (hs : H.size ≤ H1.size) (hk : ∀ q : Nat, q < H.size → ¬ fr q → H1[q]? = H[q]?) (hL : ∀ q ∈ L, fr q.base) (hA : ∀ q, fr q → A q) : va_S A H0 H1 (locs ++ L) :=
  ⟨Nat.le_trans h.1 hs, fun q h1 h2 => (hk q (Nat.lt_of_lt_of_le h1 h.1) (fun z => h2 (hA q z))).trans (h.2.1 q h1 h2), fun q hq => (List.mem_append.mp hq).elim (h.2.2 q) (fun z => hA _ (hL q z))⟩
section QC
variable {p : Program} {l : Launch} {e : Env} {R : Room} {s : State} {m : MethodId} {args : Array Value} {below : List Frame} {meth : Method} {c : Code} {H : Heap} {locs : List Loc} {cells slots : Nat} {Q : State → Prop}
variable {pc : Nat} {ls : Array Slot} {rest st0 : List Value} {a : Array Value} {A fr : Nat → Prop} {H0 : Heap} {mc ms : Nat} {free : Addr → Prop}
theorem cl_p {v : Option Value} (hr : va_Run p l e R s m args below meth c H locs cells slots 0 0 (F0 m pc ls st0) rest (QP v a) noA)
    (kk : W p l e R s m args below meth c H locs cells slots Q (F0 m (pc + 3) ls (v.toList ++ rest))) : W p l e R s m args below meth c H locs cells slots Q (F0 m pc ls st0) := by
  intro T hT X
  obtain ⟨v', st₀, t, T', L, h0, X', hL, e1, -, ⟨hv, hh⟩, st⟩ := hr T hT X
  cases hv
  obtain ⟨t2, a1, b1⟩ := kk T' (by rw [e1, hh, h0]) (Stand.forget X' (fun q h => (hL q h).elim))
  exact ⟨t2, st t2 a1, b1⟩
theorem cl_pi {r : Int32} (hr : va_Run p l e R s m args below meth c H locs cells slots 0 0 (F0 m pc ls st0) rest (QP (some (.int r)) a) noA)
    (kk : W p l e R s m args below meth c H locs cells slots Q (F0 m (pc + 3) ls (.int r :: rest))) : W p l e R s m args below meth c H locs cells slots Q (F0 m pc ls st0) := cl_p hr kk
theorem cl_pl {r : Int64} (hr : va_Run p l e R s m args below meth c H locs cells slots 0 0 (F0 m pc ls st0) rest (QP (some (.long r)) a) noA)
    (kk : W p l e R s m args below meth c H locs cells slots Q (F0 m (pc + 3) ls (.long r :: rest))) : W p l e R s m args below meth c H locs cells slots Q (F0 m pc ls st0) := cl_p hr kk
theorem cl_pr {r : Value} (hr : va_Run p l e R s m args below meth c H locs cells slots 0 0 (F0 m pc ls st0) rest (QP (some r) a) noA)
    (kk : W p l e R s m args below meth c H locs cells slots Q (F0 m (pc + 3) ls (r :: rest))) : W p l e R s m args below meth c H locs cells slots Q (F0 m pc ls st0) := cl_p hr kk
theorem cl_pv (hr : va_Run p l e R s m args below meth c H locs cells slots 0 0 (F0 m pc ls st0) rest (QP none a) noA)
    (kk : W p l e R s m args below meth c H locs cells slots Q (F0 m (pc + 3) ls rest)) : W p l e R s m args below meth c H locs cells slots Q (F0 m pc ls st0) := cl_p hr kk
theorem cl_m {v : Option Value} {P : Heap → Prop} (hr : va_Run p l e R s m args below meth c H locs cells slots 0 0 (F0 m pc ls st0) rest (QM v P fr a) fr) (hS : va_S A H0 H locs) (hA : ∀ q, fr q → A q)
    (kk : ∀ (H1 : Heap) (locs1 : List Loc), P H1 → H.size ≤ H1.size → (∀ q : Nat, q < H.size → ¬ fr q → H1[q]? = H[q]?) → va_S A H0 H1 locs1 → W p l e R s m args below meth c H1 locs1 cells slots Q (F0 m (pc + 3) ls (v.toList ++ rest))) : W p l e R s m args below meth c H locs cells slots Q (F0 m pc ls st0) := by
  intro T hT X
  obtain ⟨v', st₀, t, T', L, h0, X', hL, e1, -, ⟨hv, hp, hz, hk⟩, st⟩ := hr T hT X
  cases hv
  rw [h0] at hz hk
  obtain ⟨t2, a1, b1⟩ := kk T'.heap (locs ++ L) (by rw [e1]; exact hp) (by rw [e1]; exact hz) (fun q h g => by rw [e1]; exact hk q h g) (S_app hS (by rw [e1]; exact hz) (fun q h g => by rw [e1]; exact hk q h g) hL hA) T' rfl X'
  exact ⟨t2, st t2 a1, b1⟩
theorem cl_mi {r : Int32} {P : Heap → Prop} (hr : va_Run p l e R s m args below meth c H locs cells slots 0 0 (F0 m pc ls st0) rest (QM (some (.int r)) P fr a) fr) (hS : va_S A H0 H locs) (hA : ∀ q, fr q → A q)
    (kk : ∀ (H1 : Heap) (locs1 : List Loc), P H1 → H.size ≤ H1.size → (∀ q : Nat, q < H.size → ¬ fr q → H1[q]? = H[q]?) → va_S A H0 H1 locs1 → W p l e R s m args below meth c H1 locs1 cells slots Q (F0 m (pc + 3) ls (.int r :: rest))) : W p l e R s m args below meth c H locs cells slots Q (F0 m pc ls st0) := cl_m hr hS hA kk
theorem cl_mv {P : Heap → Prop} (hr : va_Run p l e R s m args below meth c H locs cells slots 0 0 (F0 m pc ls st0) rest (QM none P fr a) fr) (hS : va_S A H0 H locs) (hA : ∀ q, fr q → A q)
    (kk : ∀ (H1 : Heap) (locs1 : List Loc), P H1 → H.size ≤ H1.size → (∀ q : Nat, q < H.size → ¬ fr q → H1[q]? = H[q]?) → va_S A H0 H1 locs1 → W p l e R s m args below meth c H1 locs1 cells slots Q (F0 m (pc + 3) ls rest)) : W p l e R s m args below meth c H locs cells slots Q (F0 m pc ls st0) := cl_m hr hS hA kk
variable {y : MethodName} {bytes cc : ByteArray} {maxL nL n index : Nat} {ret : Option FieldType} {ws : List Cond} {rm : Room} {Qc : Array Value → State → Outcome → State → Prop} {Ts : List Cond} {own C host : String} {b : Addr} {As : List Value} {G : GG} {P : Heap → Prop}
theorem rV (S : CallFix p m c cc nL s args Ts own) (hM : Met l y ws rm (PcH G (.ref b :: As) P) Qc mc ms free) (cw : CallW R s args own C index y bytes maxL ret ws rm mc ms n)
    (hr : ∃ cell : Cell, H[b]? = some cell ∧ cell.vm.isStatics = false ∧ s.vm.findClass C = some cell.cls) (hP : P H) (hO : Ok G s)
    (hn : As.length = n) (hsize : ls.size = nL) (hW : (rest.map fun v => v.category).sum ≤ 8) (hdg : decode cc pc = .ok (.invokevirtual index, 3)) (hf : cells + mc ≤ R.cells ∧ slots + ms ≤ R.slots) :
    va_Run p l e R s m args below meth c H locs cells slots mc ms (F0 m pc ls (As.reverse ++ .ref b :: rest)) rest (Qc (Value.ref b :: As).toArray) free :=
  va_runV S hM cw ⟨PcH_blind, hr, fun U hU hW => ⟨rfl, by rw [hU]; exact hP, hO.warm hW⟩⟩ rfl hn hsize rfl (lv_room hW) hdg hf
theorem rVN (S : CallFix p m c cc nL s args Ts own) (hM : Met l y ws rm (PcH G (.ref b :: As) P) Qc mc ms free) (cw : va_CN R s args own index y host bytes maxL ret ws rm mc ms n ∧ (Cond.instanceMethod y).before args s = true ∧ (Cond.selects C y y).before args s = true)
    (hr : ∃ cell : Cell, H[b]? = some cell ∧ cell.vm.isStatics = false ∧ s.vm.findClass C = some cell.cls) (hP : P H) (hO : Ok G s)
    (hn : As.length = n) (hsize : ls.size = nL) (hW : (rest.map fun v => v.category).sum ≤ 8) (hdg : decode cc pc = .ok (.invokevirtual index, 3)) (hf : cells + mc ≤ R.cells ∧ slots + ms ≤ R.slots) :
    va_Run p l e R s m args below meth c H locs cells slots mc ms (F0 m pc ls (As.reverse ++ .ref b :: rest)) rest (Qc (Value.ref b :: As).toArray) free :=
  va_runVN S hM cw ⟨PcH_blind, hr, fun U hU hW => ⟨rfl, by rw [hU]; exact hP, hO.warm hW⟩⟩ rfl hn hsize rfl (lv_room hW) hdg hf
theorem rS (S : CallFix p m c cc nL s args Ts own) (hM : Met l y ws rm (PcH G As P) Qc mc ms free) (cw : CallB R s args own index y bytes maxL ret ws rm mc ms n ∧ (Cond.static y).before args s = true)
    (hP : P H) (hO : Ok G s)
    (hn : As.length = n) (hsize : ls.size = nL) (hW : (rest.map fun v => v.category).sum ≤ 8) (hdg : decode cc pc = .ok (.invokestatic index, 3)) (hf : cells + mc ≤ R.cells ∧ slots + ms ≤ R.slots) :
    va_Run p l e R s m args below meth c H locs cells slots mc ms (F0 m pc ls (As.reverse ++ rest)) rest (Qc As.toArray) free :=
  va_runS S hM cw ⟨PcH_blind, fun U hU hW => ⟨rfl, by rw [hU]; exact hP, hO.warm hW⟩⟩ rfl hn hsize rfl (lv_room hW) hdg hf
theorem rSN (S : CallFix p m c cc nL s args Ts own) (hM : Met l y ws rm (PcH G As P) Qc mc ms free) (cw : va_CN R s args own index y host bytes maxL ret ws rm mc ms n ∧ (Cond.static y).before args s = true ∧ True)
    (hP : P H) (hO : Ok G s)
    (hn : As.length = n) (hsize : ls.size = nL) (hW : (rest.map fun v => v.category).sum ≤ 8) (hdg : decode cc pc = .ok (.invokestatic index, 3)) (hf : cells + mc ≤ R.cells ∧ slots + ms ≤ R.slots) :
    va_Run p l e R s m args below meth c H locs cells slots mc ms (F0 m pc ls (As.reverse ++ rest)) rest (Qc As.toArray) free :=
  va_runSN S hM cw ⟨PcH_blind, fun U hU hW => ⟨rfl, by rw [hU]; exact hP, hO.warm hW⟩⟩ rfl hn hsize rfl (lv_room hW) hdg hf
/-- a contract of my kind, from a walk of its body -/
theorem metH {P : Heap → Prop} {av : List Value} {ws' : List Cond} {maxL : Nat} (hy : plainName y.cls = true) (hw : ws = Cond.code y cc maxL ret :: ws')
    (body : ∀ (p : Program) (e : Env) (s : State) (m : MethodId) (below : List Frame) (meth : Method) (c : Code), p.tables.exec = Jvm.exec → c.code = cc → meth.sig.returnType = ret → c.maxLocals = maxL → s.vm.findClass y.cls = some m.cls →
      (∀ w ∈ ws, w.before av.toArray s = true) → meth.locks = false → P s.heap → Ok G s →
      W p l e (headSpec ws rm).room s m av.toArray below meth c s.heap [] 0 0 (MQ below Qc av.toArray s mc ms free) (entryFrame m av.toArray maxL)) : Met l y ws rm (PcH G av P) Qc mc ms free := by
  refine Met.ofW (cc := cc) (maxL := maxL) (ret := ret) hy hw ?_
  intro p e s m args below meth c s₁ B hml hv
  obtain ⟨rfl, hP, hO⟩ := hv
  exact body p e s m below meth c B.exec B.bytes B.returns hml (findClass_of_methodNamed B.named) (atoms_spec (ws := ws) B.pre) B.notSynchronized hP hO
end QC
/-- one row of numbers -/
abbrev Arr (G : GG) (k a n : Nat) (f : Nat → Int32) (H : Heap) : Prop := va_P G.1 vwCl [(a, .inl (G.2 k, n, .inl f))] H
theorem Arr_D {A : Nat → Prop} {a : Nat} {x : va_E} (h : A a) : va_D A [(a, x)] := by
  refine ⟨fun i j p q hp hq _ => ?_, fun k q hk => ?_⟩
  · have h1 := (List.getElem?_eq_some_iff.mp hp).1
    have h2 := (List.getElem?_eq_some_iff.mp hq).1
    simp at h1 h2
    omega
  · have h1 := (List.getElem?_eq_some_iff.mp hk).1
    simp at h1
    subst h1
    cases hk
    exact h
/-- cells at addresses a, a + 1, .. one behind the other are apart -/
theorem seq_D {A : Nat → Prop} (a : Nat) (ws : va_W) (h : ∀ (k : Nat) (q : Nat × va_E), ws[k]? = some q → q.1 = a + k) (hA : ∀ q, a ≤ q → q < a + ws.length → A q) : va_D A ws := by
  refine ⟨fun i j p q hp hq e => ?_, fun k q hk => ?_⟩
  · have h1 := h i p hp
    have h2 := h j q hq
    omega
  · have h1 := h k q hk
    have h2 := (List.getElem?_eq_some_iff.mp hk).1
    exact hA q.1 (by omega) (by omega)
/-- the block [lo, hi) -/
def blk (lo hi : Nat) : Nat → Prop := fun q => lo ≤ q ∧ q < hi
def one (a : Nat) : Nat → Prop := fun q => q = a
