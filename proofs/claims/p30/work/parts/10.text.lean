section QT
variable {p : Program} {l : Launch} {e : Env} {R : Room} {s : State} {m : MethodId} {args : Array Value} {below : List Frame} {meth : Method} {c : Code} {H : Heap} {locs : List Loc} {cells slots : Nat} {Q : State → Prop} {cc : ByteArray} {pc : Nat} {ls : Array Slot} {rest : List Value}
theorem lv_tableD (hexec : p.tables.exec = Jvm.exec) (hb : c.code = cc) {dflt lo hi : Int} {offs : Array Int} {len : Nat} {x : Int32} {tgt : Nat} (hdg : decode cc pc = .ok (.tableswitch dflt lo hi offs, len)) (h : ∀ i : Int, lo ≤ i → i ≤ hi → i = x.toInt → offs[(i - lo).toNat]? = some dflt) (ht : (pc : Int) + dflt = (tgt : Int))
    (k : W p l e R s m args below meth c H locs cells slots Q (F0 m tgt ls rest)) : W p l e R s m args below meth c H locs cells slots Q (F0 m pc ls (.int x :: rest)) := by
  by_cases h1 : x.toInt < lo
  · exact lv_tableOut hexec hb hdg (Or.inl h1) ht k
  · by_cases h2 : hi < x.toInt
    · exact lv_tableOut hexec hb hdg (Or.inr h2) ht k
    · exact lv_tableIn hexec hb hdg h1 h2 (h x.toInt (by omega) (by omega) rfl) ht k
end QT
theorem lk_s {a o d : Int} {r : List (Int × Int)} {x k : Int32} (hk : k.toInt = a) (h : ¬ x = k) : Op.lookupswitch.offset ((a, o) :: r) d x.toInt = Op.lookupswitch.offset r d x.toInt := by
  rw [Op.lookupswitch.offset_cons, if_neg (fun z => h (Int32.toInt_inj.mp (z.symm.trans hk.symm)))]
-- a text: its letters, its length
abbrev Tt : Type := Rw × Int32
def tL (X : Tt) : Rw := X.1
def tZ (X : Tt) : Int32 := X.2
def uL (X : Tt) (v : Rw) : Tt := (v, X.2)
def uZ (X : Tt) (v : Int32) : Tt := (X.1, v)
abbrev txW (G : GG) (t : Nat) (X : Tt) : va_W := [(t, .inr (3, [.ref (t + 1), .int (tZ X)])), (t + 1, .inl (G.2 1, 120, .inl (tL X)))]
abbrev Tx (G : GG) (t : Nat) (X : Tt) (H : Heap) : Prop := va_P G.1 vwCl (txW G t X) H
theorem tx_adr (G : GG) (t : Nat) (X : Tt) : ∀ (k : Nat) (q : Nat × va_E), (txW G t X)[k]? = some q → q.1 = t + k := by
  intro k q hk
  have hl : k < 2 := (List.getElem?_eq_some_iff.mp hk).1
  match k, hk, hl with
  | 0, hk, _ => cases hk; rfl
  | 1, hk, _ => cases hk; rfl
theorem tx_D {G : GG} {A : Nat → Prop} (t : Nat) (X : Tt) (hA : ∀ q, blk t (t + 2) q → A q) : va_D A (txW G t X) :=
  seq_D t _ (tx_adr G t X) (fun q h1 h2 => hA q ⟨h1, h2⟩)
theorem tx_blk {G : GG} {t : Nat} {X : Tt} {k : Nat} {q : Nat × va_E} (h : (txW G t X)[k]? = some q) : t ≤ q.1 ∧ q.1 < t + 2 := by
  have h1 := tx_adr G t X k q h
  have h2 : k < 2 := (List.getElem?_eq_some_iff.mp h).1
  omega
theorem tx_recv {G : GG} {s : State} {H : Heap} {t : Nat} {X : Tt} (hO : Ok G s) (hP : Tx G t X H) : ∃ cell : Cell, H[t]? = some cell ∧ cell.vm.isStatics = false ∧ s.vm.findClass RX5 = some cell.cls := va_recv hO.1 hP (ci := 3) (q0 := 0) rfl rfl
theorem tx_pZ {G : GG} {t : Nat} {X : Tt} {v : Int32} {H : Heap} (h : va_P G.1 vwCl ((txW G t X).set 0 (t, .inr (3, ([.ref (t + 1), .int (tZ X)] : List Value).set 1 (.int v)))) H) : Tx G t (uZ X v) H := h
theorem tx_pL {G : GG} {t : Nat} {X : Tt} {v : Rw} {H : Heap} (h : va_P G.1 vwCl ((txW G t X).set 1 (t + 1, .inl (G.2 1, 120, .inl v))) H) : Tx G t (uL X v) H := h

def f_X5_isFull (X : Tt) : Int32 :=
  if (tZ X) < 120 then 0 else
  1
set_option maxHeartbeats 4000000 in
set_option maxRecDepth 100000 in
theorem c_X5_isFull (l : Launch) (G : GG) (t : Nat) (X : Tt) : Met l yX5_isFull wsX5_isFull ({ frames := 0, cells := 0, slots := 0, locals := 0 }) (PcH G [.ref t] (Tx G t X)) (QP (some (.int (f_X5_isFull X)))) 0 0 noA := by
  refine metH (cc := cX5_isFull) (maxL := 1) (ret := (some .boolean)) (by decide) rfl ?_
  intro p e s m below meth cd hx hb hr hml hown hts hlocks hP hO
  have hin5 : ∀ w ∈ u_ws RX5 TX5 2, w ∈ wsX5_isFull := by decide +kernel
  have hf_15 := hts (.fieldLink RX5 15 "CurbCars$StreetText" "size" "I") (by decide +kernel)
  have hS : va_S noA s.heap s.heap [] := va_S.rf
  have hl := lv_entry ([.ref t]) (n := 1) (Nat.le_of_ble_eq_true rfl)
  rw [lg_entry_eq]
  generalize (lg_sl ([.ref t]) ++ List.replicate (1 - (lg_sl ([.ref t])).length) Slot.unset).toArray = ls at hl ⊢
  have hl : lv_has ls 1 [(0, .ref t)] := hl
  refine lv_aload_n hx hb dX5_isFull_0 rfl (lv_at hl 0 rfl) ?_
  refine va_get (D := G.1) (ci := 3) (v := .int (tZ X)) (C := RX5) (T := TX5) (N := 2) hx hb hts hin5 hown hO.1 hP 0 rfl rfl 1 (by decide) hf_15 (fun _ h9 => h9) rfl dX5_isFull_1 ?_
  refine lv_bipush (v := 120) hx hb dX5_isFull_4 (by decide) ?_
  refine lv_icmp_lt (tgt := 13) hx hb dX5_isFull_6 (by decide) (fun c_1 => ?_) (fun c_1 => ?_)
  · refine lv_iconst (v := 0) hx hb dX5_isFull_13 (by decide) ?_
    have hE : f_X5_isFull X = 0 := (by rw [f_X5_isFull, if_pos c_1])
    exact W.zret (ty := .boolean) hx hb hr rfl (fun t ht hW => ⟨by rw [hE], ht⟩) hS.2.2 dX5_isFull_14
  · refine lv_iconst (v := 1) hx hb dX5_isFull_9 (by decide) ?_
    refine lv_goto (tgt := 14) hx hb dX5_isFull_10 (by decide) ?_
    have hE : f_X5_isFull X = 1 := (by rw [f_X5_isFull, if_neg c_1])
    exact W.zret (ty := .boolean) hx hb hr rfl (fun t ht hW => ⟨by rw [hE], ht⟩) hS.2.2 dX5_isFull_14

theorem b_f_X5_isFull (X : Tt) : f_X5_isFull X = 0 ∨ f_X5_isFull X = 1 := by
  unfold f_X5_isFull
  repeat (first | exact Or.inl rfl | exact Or.inr rfl | split)

def h_X5_add (X : Tt) (ch : Int32) : Int32 × Tt :=
  if (tZ X) < 0 then (tZ X, X) else
  if 120 ≤ (tZ X) then (tZ X, X) else
  (tZ (uZ (uL X (upd (tL X) (tZ X).toNatClampNeg (vp_nar .char ch))) ((tZ (uL X (upd (tL X) (tZ X).toNatClampNeg (vp_nar .char ch)))) + 1)), (uZ (uL X (upd (tL X) (tZ X).toNatClampNeg (vp_nar .char ch))) ((tZ (uL X (upd (tL X) (tZ X).toNatClampNeg (vp_nar .char ch)))) + 1)))
set_option maxHeartbeats 4000000 in
set_option maxRecDepth 100000 in
theorem c_X5_add (l : Launch) (G : GG) (t : Nat) (X : Tt) (ch : Int32) : Met l yX5_add wsX5_add ({ frames := 0, cells := 0, slots := 0, locals := 0 }) (PcH G [.ref t, .int ch] (Tx G t X)) (QM (some (.int ((h_X5_add X ch).1))) (Tx G t ((h_X5_add X ch).2)) (blk t (t + 2))) 0 0 (blk t (t + 2)) := by
  refine metH (cc := cX5_add) (maxL := 2) (ret := (some .int)) (by decide) rfl ?_
  intro p e s m below meth cd hx hb hr hml hown hts hlocks hP hO
  have hin5 : ∀ w ∈ u_ws RX5 TX5 2, w ∈ wsX5_add := by decide +kernel
  have hf_9 := hts (.fieldLink RX5 9 "CurbCars$StreetText" "letters" "[C") (by decide +kernel)
  have hf_15 := hts (.fieldLink RX5 15 "CurbCars$StreetText" "size" "I") (by decide +kernel)
  have hA : ∀ q, (blk t (t + 2)) q → (blk t (t + 2)) q := fun _ h => h
  have hS : va_S (blk t (t + 2)) s.heap s.heap [] := va_S.rf
  have hl := lv_entry ([.ref t, .int ch]) (n := 2) (Nat.le_of_ble_eq_true rfl)
  rw [lg_entry_eq]
  generalize (lg_sl ([.ref t, .int ch]) ++ List.replicate (2 - (lg_sl ([.ref t, .int ch])).length) Slot.unset).toArray = ls at hl ⊢
  have hl : lv_has ls 2 [(0, .ref t), (1, .int ch)] := hl
  refine lv_aload_n hx hb dX5_add_0 rfl (lv_at hl 0 rfl) ?_
  refine va_get (D := G.1) (ci := 3) (v := .int (tZ X)) (C := RX5) (T := TX5) (N := 2) hx hb hts hin5 hown hO.1 hP 0 rfl rfl 1 (by decide) hf_15 (fun _ h9 => h9) rfl dX5_add_1 ?_
  refine lv_if_lt (tgt := 39) hx hb dX5_add_4 (by decide) (fun c_1 => ?_) (fun c_1 => ?_)
  · refine lv_aload_n hx hb dX5_add_39 rfl (lv_at hl 0 rfl) ?_
    refine va_get (D := G.1) (ci := 3) (v := .int (tZ X)) (C := RX5) (T := TX5) (N := 2) hx hb hts hin5 hown hO.1 hP 0 rfl rfl 1 (by decide) hf_15 (fun _ h9 => h9) rfl dX5_add_40 ?_
    have hE : h_X5_add X ch = (tZ X, X) := (by rw [h_X5_add, if_pos c_1])
    have hE2 := snd_of hE
    exact W.iret hx hb hr (fun t ht hW => ⟨by rw [fst_of hE], by rw [ht, hE2]; exact hP, hS.F ht⟩) hS.2.2 dX5_add_43
  · refine lv_aload_n hx hb dX5_add_7 rfl (lv_at hl 0 rfl) ?_
    refine va_get (D := G.1) (ci := 3) (v := .int (tZ X)) (C := RX5) (T := TX5) (N := 2) hx hb hts hin5 hown hO.1 hP 0 rfl rfl 1 (by decide) hf_15 (fun _ h9 => h9) rfl dX5_add_8 ?_
    refine lv_aload_n hx hb dX5_add_11 rfl (lv_at hl 0 rfl) ?_
    refine va_get (D := G.1) (ci := 3) (v := .ref (t + 1)) (C := RX5) (T := TX5) (N := 2) hx hb hts hin5 hown hO.1 hP 0 rfl rfl 0 (by decide) hf_9 (fun _ h9 => h9) rfl dX5_add_12 ?_
    refine va_alen (ty := .char) (v := 120) hx hb hO.1 hP 1 1 rfl rfl rfl dX5_add_15 ?_
    refine lv_icmp_ge (tgt := 39) hx hb dX5_add_16 (by decide) (fun c_2 => ?_) (fun c_2 => ?_)
    · refine lv_aload_n hx hb dX5_add_39 rfl (lv_at hl 0 rfl) ?_
      refine va_get (D := G.1) (ci := 3) (v := .int (tZ X)) (C := RX5) (T := TX5) (N := 2) hx hb hts hin5 hown hO.1 hP 0 rfl rfl 1 (by decide) hf_15 (fun _ h9 => h9) rfl dX5_add_40 ?_
      have hE : h_X5_add X ch = (tZ X, X) := (by rw [h_X5_add, if_neg c_1, if_pos c_2])
      have hE2 := snd_of hE
      exact W.iret hx hb hr (fun t ht hW => ⟨by rw [fst_of hE], by rw [ht, hE2]; exact hP, hS.F ht⟩) hS.2.2 dX5_add_43
    · refine lv_aload_n hx hb dX5_add_19 rfl (lv_at hl 0 rfl) ?_
      refine va_get (D := G.1) (ci := 3) (v := .ref (t + 1)) (C := RX5) (T := TX5) (N := 2) hx hb hts hin5 hown hO.1 hP 0 rfl rfl 0 (by decide) hf_9 (fun _ h9 => h9) rfl dX5_add_20 ?_
      refine lv_aload_n hx hb dX5_add_23 rfl (lv_at hl 0 rfl) ?_
      refine va_get (D := G.1) (ci := 3) (v := .int (tZ X)) (C := RX5) (T := TX5) (N := 2) hx hb hts hin5 hown hO.1 hP 0 rfl rfl 1 (by decide) hf_15 (fun _ h9 => h9) rfl dX5_add_24 ?_
      refine lv_iload_n hx hb dX5_add_27 rfl (lv_at hl 1 rfl) ?_
      refine va_cast hx hb hO.1 hP (tx_D t X hA) hS 1 1 rfl rfl (by first | exact in_of (by assumption) (by assumption) (by decide) | exact in_ofl (by assumption) (by assumption) (by decide)) dX5_add_28 (fun H locs hP hD hS => ?_)
      have hP : Tx G t (uL X (upd (tL X) (tZ X).toNatClampNeg (vp_nar .char ch))) H := tx_pL hP
      refine lv_aload_n hx hb dX5_add_29 rfl (lv_at hl 0 rfl) ?_
      refine lv_dup hx hb dX5_add_30 rfl ?_
      refine va_get (D := G.1) (ci := 3) (v := .int (tZ (uL X (upd (tL X) (tZ X).toNatClampNeg (vp_nar .char ch))))) (C := RX5) (T := TX5) (N := 2) hx hb hts hin5 hown hO.1 hP 0 rfl rfl 1 (by decide) hf_15 (fun _ h9 => h9) rfl dX5_add_31 ?_
      refine lv_iconst (v := 1) hx hb dX5_add_34 (by decide) ?_
      refine lv_iadd hx hb dX5_add_35 ?_
      refine va_put (D := G.1) (ci := 3) (v := .int ((tZ (uL X (upd (tL X) (tZ X).toNatClampNeg (vp_nar .char ch)))) + 1)) (ty := .int) (C := RX5) (T := TX5) (N := 2) hx hb hts hin5 tyX5 tyX5_ok nmX5 hown hO.1 hP (tx_D t (uL X (upd (tL X) (tZ X).toNatClampNeg (vp_nar .char ch))) hA) hS 0 rfl rfl 1 (by decide) hf_15 (fun _ h9 => h9) rfl (by decide +kernel) rfl rfl (Nat.le_of_ble_eq_true rfl) dX5_add_36 (fun H locs hP hD hS => ?_)
      have hP : Tx G t (uZ (uL X (upd (tL X) (tZ X).toNatClampNeg (vp_nar .char ch))) ((tZ (uL X (upd (tL X) (tZ X).toNatClampNeg (vp_nar .char ch)))) + 1)) H := tx_pZ hP
      refine lv_aload_n hx hb dX5_add_39 rfl (lv_at hl 0 rfl) ?_
      refine va_get (D := G.1) (ci := 3) (v := .int (tZ (uZ (uL X (upd (tL X) (tZ X).toNatClampNeg (vp_nar .char ch))) ((tZ (uL X (upd (tL X) (tZ X).toNatClampNeg (vp_nar .char ch)))) + 1)))) (C := RX5) (T := TX5) (N := 2) hx hb hts hin5 hown hO.1 hP 0 rfl rfl 1 (by decide) hf_15 (fun _ h9 => h9) rfl dX5_add_40 ?_
      have hE : h_X5_add X ch = (tZ (uZ (uL X (upd (tL X) (tZ X).toNatClampNeg (vp_nar .char ch))) ((tZ (uL X (upd (tL X) (tZ X).toNatClampNeg (vp_nar .char ch)))) + 1)), (uZ (uL X (upd (tL X) (tZ X).toNatClampNeg (vp_nar .char ch))) ((tZ (uL X (upd (tL X) (tZ X).toNatClampNeg (vp_nar .char ch)))) + 1))) := (by rw [h_X5_add, if_neg c_1, if_neg c_2])
      have hE2 := snd_of hE
      exact W.iret hx hb hr (fun t ht hW => ⟨by rw [fst_of hE], by rw [ht, hE2]; exact hP, hS.F ht⟩) hS.2.2 dX5_add_43


def f_X5_hasLetter (X : Tt) (i : Int32) : Int32 :=
  if i < 0 then 0 else
  if (tZ X) ≤ i then 0 else
  1
set_option maxHeartbeats 4000000 in
set_option maxRecDepth 100000 in
theorem c_X5_hasLetter (l : Launch) (G : GG) (t : Nat) (X : Tt) (i : Int32) : Met l yX5_hasLetter wsX5_hasLetter ({ frames := 0, cells := 0, slots := 0, locals := 0 }) (PcH G [.ref t, .int i] (Tx G t X)) (QP (some (.int (f_X5_hasLetter X i)))) 0 0 noA := by
  refine metH (cc := cX5_hasLetter) (maxL := 2) (ret := (some .boolean)) (by decide) rfl ?_
  intro p e s m below meth cd hx hb hr hml hown hts hlocks hP hO
  have hin5 : ∀ w ∈ u_ws RX5 TX5 2, w ∈ wsX5_hasLetter := by decide +kernel
  have hf_15 := hts (.fieldLink RX5 15 "CurbCars$StreetText" "size" "I") (by decide +kernel)
  have hS : va_S noA s.heap s.heap [] := va_S.rf
  have hl := lv_entry ([.ref t, .int i]) (n := 2) (Nat.le_of_ble_eq_true rfl)
  rw [lg_entry_eq]
  generalize (lg_sl ([.ref t, .int i]) ++ List.replicate (2 - (lg_sl ([.ref t, .int i])).length) Slot.unset).toArray = ls at hl ⊢
  have hl : lv_has ls 2 [(0, .ref t), (1, .int i)] := hl
  refine lv_iload_n hx hb dX5_hasLetter_0 rfl (lv_at hl 1 rfl) ?_
  refine lv_if_lt (tgt := 16) hx hb dX5_hasLetter_1 (by decide) (fun c_1 => ?_) (fun c_1 => ?_)
  · refine lv_iconst (v := 0) hx hb dX5_hasLetter_16 (by decide) ?_
    have hE : f_X5_hasLetter X i = 0 := (by rw [f_X5_hasLetter, if_pos c_1])
    exact W.zret (ty := .boolean) hx hb hr rfl (fun t ht hW => ⟨by rw [hE], ht⟩) hS.2.2 dX5_hasLetter_17
  · refine lv_iload_n hx hb dX5_hasLetter_4 rfl (lv_at hl 1 rfl) ?_
    refine lv_aload_n hx hb dX5_hasLetter_5 rfl (lv_at hl 0 rfl) ?_
    refine va_get (D := G.1) (ci := 3) (v := .int (tZ X)) (C := RX5) (T := TX5) (N := 2) hx hb hts hin5 hown hO.1 hP 0 rfl rfl 1 (by decide) hf_15 (fun _ h9 => h9) rfl dX5_hasLetter_6 ?_
    refine lv_icmp_ge (tgt := 16) hx hb dX5_hasLetter_9 (by decide) (fun c_2 => ?_) (fun c_2 => ?_)
    · refine lv_iconst (v := 0) hx hb dX5_hasLetter_16 (by decide) ?_
      have hE : f_X5_hasLetter X i = 0 := (by rw [f_X5_hasLetter, if_neg c_1, if_pos c_2])
      exact W.zret (ty := .boolean) hx hb hr rfl (fun t ht hW => ⟨by rw [hE], ht⟩) hS.2.2 dX5_hasLetter_17
    · refine lv_iconst (v := 1) hx hb dX5_hasLetter_12 (by decide) ?_
      refine lv_goto (tgt := 17) hx hb dX5_hasLetter_13 (by decide) ?_
      have hE : f_X5_hasLetter X i = 1 := (by rw [f_X5_hasLetter, if_neg c_1, if_neg c_2])
      exact W.zret (ty := .boolean) hx hb hr rfl (fun t ht hW => ⟨by rw [hE], ht⟩) hS.2.2 dX5_hasLetter_17

theorem b_f_X5_hasLetter (X : Tt) (i : Int32) : f_X5_hasLetter X i = 0 ∨ f_X5_hasLetter X i = 1 := by
  unfold f_X5_hasLetter
  repeat (first | exact Or.inl rfl | exact Or.inr rfl | split)

def f_X5_letterAt (X : Tt) (i : Int32) : Int32 :=
  if i < 0 then (-1) else
  if (tZ X) ≤ i then (-1) else
  if i < 120 then (tL X) i.toNatClampNeg else
  (-1)
set_option maxHeartbeats 4000000 in
set_option maxRecDepth 100000 in
theorem c_X5_letterAt (l : Launch) (G : GG) (t : Nat) (X : Tt) (i : Int32) : Met l yX5_letterAt wsX5_letterAt ({ frames := 0, cells := 0, slots := 0, locals := 0 }) (PcH G [.ref t, .int i] (Tx G t X)) (QP (some (.int (f_X5_letterAt X i)))) 0 0 noA := by
  refine metH (cc := cX5_letterAt) (maxL := 2) (ret := (some .int)) (by decide) rfl ?_
  intro p e s m below meth cd hx hb hr hml hown hts hlocks hP hO
  have hin5 : ∀ w ∈ u_ws RX5 TX5 2, w ∈ wsX5_letterAt := by decide +kernel
  have hf_9 := hts (.fieldLink RX5 9 "CurbCars$StreetText" "letters" "[C") (by decide +kernel)
  have hf_15 := hts (.fieldLink RX5 15 "CurbCars$StreetText" "size" "I") (by decide +kernel)
  have hS : va_S noA s.heap s.heap [] := va_S.rf
  have hl := lv_entry ([.ref t, .int i]) (n := 2) (Nat.le_of_ble_eq_true rfl)
  rw [lg_entry_eq]
  generalize (lg_sl ([.ref t, .int i]) ++ List.replicate (2 - (lg_sl ([.ref t, .int i])).length) Slot.unset).toArray = ls at hl ⊢
  have hl : lv_has ls 2 [(0, .ref t), (1, .int i)] := hl
  refine lv_iload_n hx hb dX5_letterAt_0 rfl (lv_at hl 1 rfl) ?_
  refine lv_if_lt (tgt := 21) hx hb dX5_letterAt_1 (by decide) (fun c_1 => ?_) (fun c_1 => ?_)
  · refine lv_iconst (v := -1) hx hb dX5_letterAt_21 (by decide) ?_
    have hE : f_X5_letterAt X i = (-1) := (by rw [f_X5_letterAt, if_pos c_1])
    exact W.iret hx hb hr (fun t ht hW => ⟨by rw [hE], ht⟩) hS.2.2 dX5_letterAt_22
  · refine lv_iload_n hx hb dX5_letterAt_4 rfl (lv_at hl 1 rfl) ?_
    refine lv_aload_n hx hb dX5_letterAt_5 rfl (lv_at hl 0 rfl) ?_
    refine va_get (D := G.1) (ci := 3) (v := .int (tZ X)) (C := RX5) (T := TX5) (N := 2) hx hb hts hin5 hown hO.1 hP 0 rfl rfl 1 (by decide) hf_15 (fun _ h9 => h9) rfl dX5_letterAt_6 ?_
    refine lv_icmp_ge (tgt := 21) hx hb dX5_letterAt_9 (by decide) (fun c_2 => ?_) (fun c_2 => ?_)
    · refine lv_iconst (v := -1) hx hb dX5_letterAt_21 (by decide) ?_
      have hE : f_X5_letterAt X i = (-1) := (by rw [f_X5_letterAt, if_neg c_1, if_pos c_2])
      exact W.iret hx hb hr (fun t ht hW => ⟨by rw [hE], ht⟩) hS.2.2 dX5_letterAt_22
    · refine lv_iload_n hx hb dX5_letterAt_12 rfl (lv_at hl 1 rfl) ?_
      refine lv_aload_n hx hb dX5_letterAt_13 rfl (lv_at hl 0 rfl) ?_
      refine va_get (D := G.1) (ci := 3) (v := .ref (t + 1)) (C := RX5) (T := TX5) (N := 2) hx hb hts hin5 hown hO.1 hP 0 rfl rfl 0 (by decide) hf_9 (fun _ h9 => h9) rfl dX5_letterAt_14 ?_
      refine va_alen (ty := .char) (v := 120) hx hb hO.1 hP 1 1 rfl rfl rfl dX5_letterAt_17 ?_
      refine lv_icmp_lt (tgt := 23) hx hb dX5_letterAt_18 (by decide) (fun c_3 => ?_) (fun c_3 => ?_)
      · refine lv_aload_n hx hb dX5_letterAt_23 rfl (lv_at hl 0 rfl) ?_
        refine va_get (D := G.1) (ci := 3) (v := .ref (t + 1)) (C := RX5) (T := TX5) (N := 2) hx hb hts hin5 hown hO.1 hP 0 rfl rfl 0 (by decide) hf_9 (fun _ h9 => h9) rfl dX5_letterAt_24 ?_
        refine lv_iload_n hx hb dX5_letterAt_27 rfl (lv_at hl 1 rfl) ?_
        refine va_cald hx hb hO.1 hP 1 1 rfl rfl (by first | exact in_of (by assumption) (by assumption) (by decide) | exact in_ofl (by assumption) (by assumption) (by decide)) dX5_letterAt_28 ?_
        have hE : f_X5_letterAt X i = (tL X) i.toNatClampNeg := (by rw [f_X5_letterAt, if_neg c_1, if_neg c_2, if_pos c_3])
        exact W.iret hx hb hr (fun t ht hW => ⟨by rw [hE], ht⟩) hS.2.2 dX5_letterAt_29
      · refine lv_iconst (v := -1) hx hb dX5_letterAt_21 (by decide) ?_
        have hE : f_X5_letterAt X i = (-1) := (by rw [f_X5_letterAt, if_neg c_1, if_neg c_2, if_neg c_3])
        exact W.iret hx hb hr (fun t ht hW => ⟨by rw [hE], ht⟩) hS.2.2 dX5_letterAt_22

def f_X5_commandSize (X : Tt) (i : Int32) : Int32 :=
  if (f_X5_letterAt X i) = 99 then 4 else
  if (f_X5_letterAt X i) = 104 then 4 else
  if (f_X5_letterAt X i) = 109 then 5 else
  if (f_X5_letterAt X i) = 114 then 2 else
  3
set_option maxHeartbeats 4000000 in
set_option maxRecDepth 100000 in
theorem c_X5_commandSize (l : Launch) (G : GG) (t : Nat) (X : Tt) (i : Int32) : Met l yX5_commandSize wsX5_commandSize ({ frames := 1, cells := 0, slots := 0, locals := 21 }) (PcH G [.ref t, .int i] (Tx G t X)) (QP (some (.int (f_X5_commandSize X i)))) 0 0 noA := by
  refine metH (cc := cX5_commandSize) (maxL := 2) (ret := (some .int)) (by decide) rfl ?_
  intro p e s m below meth cd hx hb hr hml hown hts hlocks hP hO
  have hS : va_S noA s.heap s.heap [] := va_S.rf
  have hl := lv_entry ([.ref t, .int i]) (n := 2) (Nat.le_of_ble_eq_true rfl)
  rw [lg_entry_eq]
  generalize (lg_sl ([.ref t, .int i]) ++ List.replicate (2 - (lg_sl ([.ref t, .int i])).length) Slot.unset).toArray = ls at hl ⊢
  have hl : lv_has ls 2 [(0, .ref t), (1, .int i)] := hl
  refine lv_aload_n hx hb dX5_commandSize_0 rfl (lv_at hl 0 rfl) ?_
  refine lv_iload_n hx hb dX5_commandSize_1 rfl (lv_at hl 1 rfl) ?_
  refine cl_pi (rV (As := [.int i]) (rest := []) ⟨hx, hb, hml, hown, hts⟩ (c_X5_letterAt l G t X i) (cwV 1 hts gX5_commandSize_X5_letterAt rfl rfl rfl (by decide +kernel) ⟨Nat.le_of_ble_eq_true rfl, Nat.le_of_ble_eq_true rfl⟩) (tx_recv hO hP) hP hO rfl hl.1 (Nat.le_of_ble_eq_true rfl) dX5_commandSize_2 ⟨Nat.le_of_ble_eq_true rfl, Nat.le_of_ble_eq_true rfl⟩) ?_
  by_cases c_1 : (f_X5_letterAt X i) = 99
  · refine lv_lookup (off := 45) (tgt := 50) hx hb dX5_commandSize_5 (by decide +kernel) (by rw [c_1]; decide +kernel) (by decide) ?_
    refine lv_iconst (v := 4) hx hb dX5_commandSize_50 (by decide) ?_
    have hE : f_X5_commandSize X i = 4 := (by rw [f_X5_commandSize, if_pos c_1])
    exact W.iret hx hb hr (fun t ht hW => ⟨by rw [hE], ht⟩) hS.2.2 dX5_commandSize_51
  by_cases c_2 : (f_X5_letterAt X i) = 104
  · refine lv_lookup (off := 43) (tgt := 48) hx hb dX5_commandSize_5 (by decide +kernel) (by rw [c_2]; decide +kernel) (by decide) ?_
    refine lv_iconst (v := 4) hx hb dX5_commandSize_48 (by decide) ?_
    have hE : f_X5_commandSize X i = 4 := (by rw [f_X5_commandSize, if_neg c_1, if_pos c_2])
    exact W.iret hx hb hr (fun t ht hW => ⟨by rw [hE], ht⟩) hS.2.2 dX5_commandSize_49
  by_cases c_3 : (f_X5_letterAt X i) = 109
  · refine lv_lookup (off := 47) (tgt := 52) hx hb dX5_commandSize_5 (by decide +kernel) (by rw [c_3]; decide +kernel) (by decide) ?_
    refine lv_iconst (v := 5) hx hb dX5_commandSize_52 (by decide) ?_
    have hE : f_X5_commandSize X i = 5 := (by rw [f_X5_commandSize, if_neg c_1, if_neg c_2, if_pos c_3])
    exact W.iret hx hb hr (fun t ht hW => ⟨by rw [hE], ht⟩) hS.2.2 dX5_commandSize_53
  by_cases c_4 : (f_X5_letterAt X i) = 114
  · refine lv_lookup (off := 49) (tgt := 54) hx hb dX5_commandSize_5 (by decide +kernel) (by rw [c_4]; decide +kernel) (by decide) ?_
    refine lv_iconst (v := 2) hx hb dX5_commandSize_54 (by decide) ?_
    have hE : f_X5_commandSize X i = 2 := (by rw [f_X5_commandSize, if_neg c_1, if_neg c_2, if_neg c_3, if_pos c_4])
    exact W.iret hx hb hr (fun t ht hW => ⟨by rw [hE], ht⟩) hS.2.2 dX5_commandSize_55
  refine lv_lookup (off := 51) (tgt := 56) hx hb dX5_commandSize_5 (by decide +kernel) (Eq.trans (lk_s (by decide) c_1) (Eq.trans (lk_s (by decide) c_2) (Eq.trans (lk_s (by decide) c_3) (Eq.trans (lk_s (by decide) c_4) rfl)))) (by decide) ?_
  refine lv_iconst (v := 3) hx hb dX5_commandSize_56 (by decide) ?_
  have hE : f_X5_commandSize X i = 3 := (by rw [f_X5_commandSize, if_neg c_1, if_neg c_2, if_neg c_3, if_neg c_4])
  exact W.iret hx hb hr (fun t ht hW => ⟨by rw [hE], ht⟩) hS.2.2 dX5_commandSize_57

def f_X5_firstOf (x : Int32) (y : Int32) : Int32 :=
  if x = (-1) then y else
  x
set_option maxHeartbeats 4000000 in
set_option maxRecDepth 100000 in
theorem c_X5_firstOf (l : Launch) (G : GG) (x : Int32) (y : Int32) : Met l yX5_firstOf wsX5_firstOf ({ frames := 0, cells := 0, slots := 0, locals := 0 }) (PcH G [.int x, .int y] (fun _ => True)) (QP (some (.int (f_X5_firstOf x y)))) 0 0 noA := by
  refine metH (cc := cX5_firstOf) (maxL := 2) (ret := (some .int)) (by decide) rfl ?_
  intro p e s m below meth cd hx hb hr hml hown hts hlocks hP hO
  have hS : va_S noA s.heap s.heap [] := va_S.rf
  have hl := lv_entry ([.int x, .int y]) (n := 2) (Nat.le_of_ble_eq_true rfl)
  rw [lg_entry_eq]
  generalize (lg_sl ([.int x, .int y]) ++ List.replicate (2 - (lg_sl ([.int x, .int y])).length) Slot.unset).toArray = ls at hl ⊢
  have hl : lv_has ls 2 [(0, .int x), (1, .int y)] := hl
  refine lv_iload_n hx hb dX5_firstOf_0 rfl (lv_at hl 0 rfl) ?_
  refine lv_iconst (v := -1) hx hb dX5_firstOf_1 (by decide) ?_
  refine lv_icmp_eq (tgt := 9) hx hb dX5_firstOf_2 (by decide) (fun c_1 => ?_) (fun c_1 => ?_)
  · refine lv_iload_n hx hb dX5_firstOf_9 rfl (lv_at hl 1 rfl) ?_
    have hE : f_X5_firstOf x y = y := (by rw [f_X5_firstOf, if_pos c_1])
    exact W.iret hx hb hr (fun t ht hW => ⟨by rw [hE], ht⟩) hS.2.2 dX5_firstOf_10
  · refine lv_iload_n hx hb dX5_firstOf_5 rfl (lv_at hl 0 rfl) ?_
    refine lv_goto (tgt := 10) hx hb dX5_firstOf_6 (by decide) ?_
    have hE : f_X5_firstOf x y = x := (by rw [f_X5_firstOf, if_neg c_1])
    exact W.iret hx hb hr (fun t ht hW => ⟨by rw [hE], ht⟩) hS.2.2 dX5_firstOf_10

def f_X5_errorInSign (X : Tt) (i : Int32) : Int32 :=
  if (f_X5_letterAt X i) = 43 then (-1) else
  if (f_X5_letterAt X i) = 45 then (-1) else
  i
set_option maxHeartbeats 4000000 in
set_option maxRecDepth 100000 in
theorem c_X5_errorInSign (l : Launch) (G : GG) (t : Nat) (X : Tt) (i : Int32) : Met l yX5_errorInSign wsX5_errorInSign ({ frames := 1, cells := 0, slots := 0, locals := 21 }) (PcH G [.ref t, .int i] (Tx G t X)) (QP (some (.int (f_X5_errorInSign X i)))) 0 0 noA := by
  refine metH (cc := cX5_errorInSign) (maxL := 2) (ret := (some .int)) (by decide) rfl ?_
  intro p e s m below meth cd hx hb hr hml hown hts hlocks hP hO
  have hS : va_S noA s.heap s.heap [] := va_S.rf
  have hl := lv_entry ([.ref t, .int i]) (n := 2) (Nat.le_of_ble_eq_true rfl)
  rw [lg_entry_eq]
  generalize (lg_sl ([.ref t, .int i]) ++ List.replicate (2 - (lg_sl ([.ref t, .int i])).length) Slot.unset).toArray = ls at hl ⊢
  have hl : lv_has ls 2 [(0, .ref t), (1, .int i)] := hl
  refine lv_aload_n hx hb dX5_errorInSign_0 rfl (lv_at hl 0 rfl) ?_
  refine lv_iload_n hx hb dX5_errorInSign_1 rfl (lv_at hl 1 rfl) ?_
  refine cl_pi (rV (As := [.int i]) (rest := []) ⟨hx, hb, hml, hown, hts⟩ (c_X5_letterAt l G t X i) (cwV 1 hts gX5_errorInSign_X5_letterAt rfl rfl rfl (by decide +kernel) ⟨Nat.le_of_ble_eq_true rfl, Nat.le_of_ble_eq_true rfl⟩) (tx_recv hO hP) hP hO rfl hl.1 (Nat.le_of_ble_eq_true rfl) dX5_errorInSign_2 ⟨Nat.le_of_ble_eq_true rfl, Nat.le_of_ble_eq_true rfl⟩) ?_
  refine lv_bipush (v := 43) hx hb dX5_errorInSign_5 (by decide) ?_
  refine lv_icmp_eq (tgt := 20) hx hb dX5_errorInSign_7 (by decide) (fun c_1 => ?_) (fun c_1 => ?_)
  · refine lv_iconst (v := -1) hx hb dX5_errorInSign_20 (by decide) ?_
    refine lv_goto (tgt := 25) hx hb dX5_errorInSign_21 (by decide) ?_
    have hE : f_X5_errorInSign X i = (-1) := (by rw [f_X5_errorInSign, if_pos c_1])
    exact W.iret hx hb hr (fun t ht hW => ⟨by rw [hE], ht⟩) hS.2.2 dX5_errorInSign_25
  · refine lv_aload_n hx hb dX5_errorInSign_10 rfl (lv_at hl 0 rfl) ?_
    refine lv_iload_n hx hb dX5_errorInSign_11 rfl (lv_at hl 1 rfl) ?_
    refine cl_pi (rV (As := [.int i]) (rest := []) ⟨hx, hb, hml, hown, hts⟩ (c_X5_letterAt l G t X i) (cwV 1 hts gX5_errorInSign_X5_letterAt rfl rfl rfl (by decide +kernel) ⟨Nat.le_of_ble_eq_true rfl, Nat.le_of_ble_eq_true rfl⟩) (tx_recv hO hP) hP hO rfl hl.1 (Nat.le_of_ble_eq_true rfl) dX5_errorInSign_12 ⟨Nat.le_of_ble_eq_true rfl, Nat.le_of_ble_eq_true rfl⟩) ?_
    refine lv_bipush (v := 45) hx hb dX5_errorInSign_15 (by decide) ?_
    refine lv_icmp_ne (tgt := 24) hx hb dX5_errorInSign_17 (by decide) (fun c_2 => ?_) (fun c_2 => ?_)
    · refine lv_iload_n hx hb dX5_errorInSign_24 rfl (lv_at hl 1 rfl) ?_
      have hE : f_X5_errorInSign X i = i := (by rw [f_X5_errorInSign, if_neg c_1, if_neg c_2])
      exact W.iret hx hb hr (fun t ht hW => ⟨by rw [hE], ht⟩) hS.2.2 dX5_errorInSign_25
    · refine lv_iconst (v := -1) hx hb dX5_errorInSign_20 (by decide) ?_
      refine lv_goto (tgt := 25) hx hb dX5_errorInSign_21 (by decide) ?_
      have hE : f_X5_errorInSign X i = (-1) := (by rw [f_X5_errorInSign, if_neg c_1, if_pos c_2])
      exact W.iret hx hb hr (fun t ht hW => ⟨by rw [hE], ht⟩) hS.2.2 dX5_errorInSign_25

def lp_errNum (X : Tt) (i dig low high : Int32) : Nat → Nat → Int32 → Int32 → Int32
  | 0, _, _, _ => 0
  | n + 1, k, least, span => if dig ≤ (nI k) then (-1) else
    if (f_X5_letterAt X (i + (nI k))) < 48 then i + (nI k) else
    if (f_X5_letterAt X (i + (nI k))) ≤ 57 then (if high < (least + (((f_X5_letterAt X (i + (nI k))) - 48) * (span / 10))) then i + (nI k) else
      if low ≤ (((least + (((f_X5_letterAt X (i + (nI k))) - 48) * (span / 10))) + (span / 10)) - 1) then lp_errNum X i dig low high n (k + 1) (least + (((f_X5_letterAt X (i + (nI k))) - 48) * (span / 10))) (span / 10) else
      i + (nI k)) else
    i + (nI k)
def f_X5_errorInNumber (X : Tt) (i : Int32) (dig : Int32) (low : Int32) (high : Int32) : Int32 :=
  if dig = 2 then lp_errNum X i dig low high (dig.toNatClampNeg + 1) 0 0 100 else
  lp_errNum X i dig low high (dig.toNatClampNeg + 1) 0 0 10
set_option maxHeartbeats 4000000 in
set_option maxRecDepth 100000 in
theorem c_X5_errorInNumber (l : Launch) (G : GG) (t : Nat) (X : Tt) (i : Int32) (dig : Int32) (low : Int32) (high : Int32) : Met l yX5_errorInNumber wsX5_errorInNumber ({ frames := 1, cells := 0, slots := 0, locals := 21 }) (PcH G [.ref t, .int i, .int dig, .int low, .int high] (Tx G t X)) (QP (some (.int (f_X5_errorInNumber X i dig low high)))) 0 0 noA := by
  refine metH (cc := cX5_errorInNumber) (maxL := 9) (ret := (some .int)) (by decide) rfl ?_
  intro p e s m below meth cd hx hb hr hml hown hts hlocks hP hO
  have hS : va_S noA s.heap s.heap [] := va_S.rf
  have hl := lv_entry ([.ref t, .int i, .int dig, .int low, .int high]) (n := 9) (Nat.le_of_ble_eq_true rfl)
  rw [lg_entry_eq]
  generalize (lg_sl ([.ref t, .int i, .int dig, .int low, .int high]) ++ List.replicate (9 - (lg_sl ([.ref t, .int i, .int dig, .int low, .int high])).length) Slot.unset).toArray = ls at hl ⊢
  have hl : lv_has ls 9 [(0, .ref t), (1, .int i), (2, .int dig), (3, .int low), (4, .int high)] := hl
  have loop20 : ∀ (n : Nat) (k : Nat) (least : Int32) (span : Int32) , k ≤ dig.toNatClampNeg → k + n = dig.toNatClampNeg + 1 → f_X5_errorInNumber X i dig low high = lp_errNum X i dig low high n k least span → ∀ (ls : Array Slot), lv_has ls 9 [(0, .ref t), (1, .int i), (2, .int dig), (3, .int low), (4, .int high), (5, .int least), (6, .int span), (7, .int (nI k))] → W p l e (headSpec wsX5_errorInNumber ({ frames := 1, cells := 0, slots := 0, locals := 21 } : Room)).room s m ([.ref t, .int i, .int dig, .int low, .int high] : List Value).toArray below meth cd s.heap [] 0 0 (MQ below (QP (some (.int (f_X5_errorInNumber X i dig low high)))) ([.ref t, .int i, .int dig, .int low, .int high] : List Value).toArray s 0 0 noA) (F0 m 20 ls []) := by
    intro n
    induction n with
    | zero =>
      intro k least span hk hn hR ls hl
      exact absurd hn (by omega)
    | succ n ih =>
      intro k least span hk hn hR ls hl
      refine lv_iload hx hb dX5_errorInNumber_20 (lv_at hl 7 rfl) ?_
      refine lv_iload_n hx hb dX5_errorInNumber_22 rfl (lv_at hl 2 rfl) ?_
      refine lv_icmp_ge (tgt := 104) hx hb dX5_errorInNumber_23 (by decide) (fun c_1 => ?_) (fun c_1 => ?_)
      · refine lv_iconst (v := -1) hx hb dX5_errorInNumber_104 (by decide) ?_
        have hE : f_X5_errorInNumber X i dig low high = (-1) := (hR.trans (by rw [lp_errNum, if_pos c_1]))
        exact W.iret hx hb hr (fun t ht hW => ⟨by rw [hE], ht⟩) hS.2.2 dX5_errorInNumber_105
      · have hlt : k < dig.toNatClampNeg := (by have h8 := clamp_lt dig; exact kV c_1 (by omega))
        refine lv_aload_n hx hb dX5_errorInNumber_26 rfl (lv_at hl 0 rfl) ?_
        refine lv_iload_n hx hb dX5_errorInNumber_27 rfl (lv_at hl 1 rfl) ?_
        refine lv_iload hx hb dX5_errorInNumber_28 (lv_at hl 7 rfl) ?_
        refine lv_iadd hx hb dX5_errorInNumber_30 ?_
        refine cl_pi (rV (As := [.int (i + (nI k))]) (rest := []) ⟨hx, hb, hml, hown, hts⟩ (c_X5_letterAt l G t X (i + (nI k))) (cwV 1 hts gX5_errorInNumber_X5_letterAt rfl rfl rfl (by decide +kernel) ⟨Nat.le_of_ble_eq_true rfl, Nat.le_of_ble_eq_true rfl⟩) (tx_recv hO hP) hP hO rfl hl.1 (Nat.le_of_ble_eq_true rfl) dX5_errorInNumber_31 ⟨Nat.le_of_ble_eq_true rfl, Nat.le_of_ble_eq_true rfl⟩) ?_
        refine lv_istore (lv' := [(8, .int (f_X5_letterAt X (i + (nI k)))), (0, .ref t), (1, .int i), (2, .int dig), (3, .int low), (4, .int high), (5, .int least), (6, .int span), (7, .int (nI k))]) hx hb dX5_errorInNumber_34 hl (by decide) rfl (fun ls hl => ?_)
        refine lv_iload hx hb dX5_errorInNumber_36 (lv_at hl 0 rfl) ?_
        refine lv_bipush (v := 48) hx hb dX5_errorInNumber_38 (by decide) ?_
        refine lv_icmp_lt (tgt := 50) hx hb dX5_errorInNumber_40 (by decide) (fun c_2 => ?_) (fun c_2 => ?_)
        · refine lv_iload_n hx hb dX5_errorInNumber_50 rfl (lv_at hl 2 rfl) ?_
          refine lv_iload hx hb dX5_errorInNumber_51 (lv_at hl 8 rfl) ?_
          refine lv_iadd hx hb dX5_errorInNumber_53 ?_
          have hE : f_X5_errorInNumber X i dig low high = i + (nI k) := (hR.trans (by rw [lp_errNum, if_neg c_1, if_pos c_2]))
          exact W.iret hx hb hr (fun t ht hW => ⟨by rw [hE], ht⟩) hS.2.2 dX5_errorInNumber_54
        · refine lv_iload hx hb dX5_errorInNumber_43 (lv_at hl 0 rfl) ?_
          refine lv_bipush (v := 57) hx hb dX5_errorInNumber_45 (by decide) ?_
          refine lv_icmp_le (tgt := 55) hx hb dX5_errorInNumber_47 (by decide) (fun c_3 => ?_) (fun c_3 => ?_)
          · refine lv_iload hx hb dX5_errorInNumber_55 (lv_at hl 7 rfl) ?_
            refine lv_bipush (v := 10) hx hb dX5_errorInNumber_57 (by decide) ?_
            refine lv_idiv hx hb dX5_errorInNumber_59 (by decide) ?_
            refine lv_istore (lv' := [(6, .int (span / 10)), (8, .int (f_X5_letterAt X (i + (nI k)))), (0, .ref t), (1, .int i), (2, .int dig), (3, .int low), (4, .int high), (5, .int least), (7, .int (nI k))]) hx hb dX5_errorInNumber_60 hl (by decide) rfl (fun ls hl => ?_)
            refine lv_iload hx hb dX5_errorInNumber_62 (lv_at hl 7 rfl) ?_
            refine lv_iload hx hb dX5_errorInNumber_64 (lv_at hl 1 rfl) ?_
            refine lv_bipush (v := 48) hx hb dX5_errorInNumber_66 (by decide) ?_
            refine lv_isub hx hb dX5_errorInNumber_68 ?_
            refine lv_iload hx hb dX5_errorInNumber_69 (lv_at hl 0 rfl) ?_
            refine lv_imul hx hb dX5_errorInNumber_71 ?_
            refine lv_iadd hx hb dX5_errorInNumber_72 ?_
            refine lv_istore (lv' := [(5, .int (least + (((f_X5_letterAt X (i + (nI k))) - 48) * (span / 10)))), (6, .int (span / 10)), (8, .int (f_X5_letterAt X (i + (nI k)))), (0, .ref t), (1, .int i), (2, .int dig), (3, .int low), (4, .int high), (7, .int (nI k))]) hx hb dX5_errorInNumber_73 hl (by decide) rfl (fun ls hl => ?_)
            refine lv_iload hx hb dX5_errorInNumber_75 (lv_at hl 0 rfl) ?_
            refine lv_iload hx hb dX5_errorInNumber_77 (lv_at hl 7 rfl) ?_
            refine lv_icmp_gt (tgt := 93) hx hb dX5_errorInNumber_79 (by decide) (fun c_4 => ?_) (fun c_4 => ?_)
            · refine lv_iload_n hx hb dX5_errorInNumber_93 rfl (lv_at hl 4 rfl) ?_
              refine lv_iload hx hb dX5_errorInNumber_94 (lv_at hl 8 rfl) ?_
              refine lv_iadd hx hb dX5_errorInNumber_96 ?_
              have hE : f_X5_errorInNumber X i dig low high = i + (nI k) := (hR.trans (by rw [lp_errNum, if_neg c_1, if_neg c_2, if_pos c_3, if_pos c_4]))
              exact W.iret hx hb hr (fun t ht hW => ⟨by rw [hE], ht⟩) hS.2.2 dX5_errorInNumber_97
            · refine lv_iload hx hb dX5_errorInNumber_82 (lv_at hl 0 rfl) ?_
              refine lv_iload hx hb dX5_errorInNumber_84 (lv_at hl 1 rfl) ?_
              refine lv_iadd hx hb dX5_errorInNumber_86 ?_
              refine lv_iconst (v := 1) hx hb dX5_errorInNumber_87 (by decide) ?_
              refine lv_isub hx hb dX5_errorInNumber_88 ?_
              refine lv_iload_n hx hb dX5_errorInNumber_89 rfl (lv_at hl 6 rfl) ?_
              refine lv_icmp_ge (tgt := 98) hx hb dX5_errorInNumber_90 (by decide) (fun c_5 => ?_) (fun c_5 => ?_)
              · refine lv_iinc (v := nI (k + 1)) (lv' := [(7, .int (nI (k + 1))), (5, .int (least + (((f_X5_letterAt X (i + (nI k))) - 48) * (span / 10)))), (6, .int (span / 10)), (8, .int (f_X5_letterAt X (i + (nI k)))), (0, .ref t), (1, .int i), (2, .int dig), (3, .int low), (4, .int high)]) hx hb dX5_errorInNumber_98 hl (k := 8) rfl (nI_1 _) (by decide) rfl (fun ls hl => ?_)
                refine lv_goto (tgt := 20) hx hb dX5_errorInNumber_101 (by decide) ?_
                have hE_6 : f_X5_errorInNumber X i dig low high = lp_errNum X i dig low high n (k + 1) (least + (((f_X5_letterAt X (i + (nI k))) - 48) * (span / 10))) (span / 10) := (hR.trans (by rw [lp_errNum, if_neg c_1, if_neg c_2, if_pos c_3, if_neg c_4, if_pos c_5]))
                exact ih (k + 1) (least + (((f_X5_letterAt X (i + (nI k))) - 48) * (span / 10))) (span / 10) (by omega) (by omega) hE_6 _ (lv_sub hl [4, 5, 6, 7, 8, 1, 2, 0] rfl)
              · refine lv_iload_n hx hb dX5_errorInNumber_93 rfl (lv_at hl 4 rfl) ?_
                refine lv_iload hx hb dX5_errorInNumber_94 (lv_at hl 8 rfl) ?_
                refine lv_iadd hx hb dX5_errorInNumber_96 ?_
                have hE : f_X5_errorInNumber X i dig low high = i + (nI k) := (hR.trans (by rw [lp_errNum, if_neg c_1, if_neg c_2, if_pos c_3, if_neg c_4, if_neg c_5]))
                exact W.iret hx hb hr (fun t ht hW => ⟨by rw [hE], ht⟩) hS.2.2 dX5_errorInNumber_97
          · refine lv_iload_n hx hb dX5_errorInNumber_50 rfl (lv_at hl 2 rfl) ?_
            refine lv_iload hx hb dX5_errorInNumber_51 (lv_at hl 8 rfl) ?_
            refine lv_iadd hx hb dX5_errorInNumber_53 ?_
            have hE : f_X5_errorInNumber X i dig low high = i + (nI k) := (hR.trans (by rw [lp_errNum, if_neg c_1, if_neg c_2, if_neg c_3]))
            exact W.iret hx hb hr (fun t ht hW => ⟨by rw [hE], ht⟩) hS.2.2 dX5_errorInNumber_54
  refine lv_iconst (v := 0) hx hb dX5_errorInNumber_0 (by decide) ?_
  refine lv_istore (lv' := [(5, .int 0), (0, .ref t), (1, .int i), (2, .int dig), (3, .int low), (4, .int high)]) hx hb dX5_errorInNumber_1 hl (by decide) rfl (fun ls hl => ?_)
  refine lv_iload_n hx hb dX5_errorInNumber_3 rfl (lv_at hl 3 rfl) ?_
  refine lv_iconst (v := 2) hx hb dX5_errorInNumber_4 (by decide) ?_
  refine lv_icmp_ne (tgt := 13) hx hb dX5_errorInNumber_5 (by decide) (fun c_7 => ?_) (fun c_7 => ?_)
  · refine lv_bipush (v := 10) hx hb dX5_errorInNumber_13 (by decide) ?_
    refine lv_istore (lv' := [(6, .int 10), (5, .int 0), (0, .ref t), (1, .int i), (2, .int dig), (3, .int low), (4, .int high)]) hx hb dX5_errorInNumber_15 hl (by decide) rfl (fun ls hl => ?_)
    refine lv_iconst (v := 0) hx hb dX5_errorInNumber_17 (by decide) ?_
    refine lv_istore (lv' := [(7, .int 0), (6, .int 10), (5, .int 0), (0, .ref t), (1, .int i), (2, .int dig), (3, .int low), (4, .int high)]) hx hb dX5_errorInNumber_18 hl (by decide) rfl (fun ls hl => ?_)
    have hE_8 : f_X5_errorInNumber X i dig low high = lp_errNum X i dig low high (dig.toNatClampNeg + 1) 0 0 10 := (by rw [f_X5_errorInNumber, if_neg c_7])
    exact loop20 (dig.toNatClampNeg + 1) 0 0 10 (Nat.zero_le _) (by omega) hE_8 _ (lv_sub hl [3, 4, 5, 6, 7, 2, 1, 0] rfl)
  · refine lv_bipush (v := 100) hx hb dX5_errorInNumber_8 (by decide) ?_
    refine lv_goto (tgt := 15) hx hb dX5_errorInNumber_10 (by decide) ?_
    refine lv_istore (lv' := [(6, .int 100), (5, .int 0), (0, .ref t), (1, .int i), (2, .int dig), (3, .int low), (4, .int high)]) hx hb dX5_errorInNumber_15 hl (by decide) rfl (fun ls hl => ?_)
    refine lv_iconst (v := 0) hx hb dX5_errorInNumber_17 (by decide) ?_
    refine lv_istore (lv' := [(7, .int 0), (6, .int 100), (5, .int 0), (0, .ref t), (1, .int i), (2, .int dig), (3, .int low), (4, .int high)]) hx hb dX5_errorInNumber_18 hl (by decide) rfl (fun ls hl => ?_)
    have hE_9 : f_X5_errorInNumber X i dig low high = lp_errNum X i dig low high (dig.toNatClampNeg + 1) 0 0 100 := (by rw [f_X5_errorInNumber, if_pos c_7])
    exact loop20 (dig.toNatClampNeg + 1) 0 0 100 (Nat.zero_le _) (by omega) hE_9 _ (lv_sub hl [3, 4, 5, 6, 7, 2, 1, 0] rfl)

def f_X5_errorInCell (X : Tt) (i : Int32) : Int32 :=
  f_X5_errorInNumber X i 2 0 79
set_option maxHeartbeats 4000000 in
set_option maxRecDepth 100000 in
theorem c_X5_errorInCell (l : Launch) (G : GG) (t : Nat) (X : Tt) (i : Int32) : Met l yX5_errorInCell wsX5_errorInCell ({ frames := 2, cells := 0, slots := 0, locals := 49 }) (PcH G [.ref t, .int i] (Tx G t X)) (QP (some (.int (f_X5_errorInCell X i)))) 0 0 noA := by
  refine metH (cc := cX5_errorInCell) (maxL := 2) (ret := (some .int)) (by decide) rfl ?_
  intro p e s m below meth cd hx hb hr hml hown hts hlocks hP hO
  have hS : va_S noA s.heap s.heap [] := va_S.rf
  have hl := lv_entry ([.ref t, .int i]) (n := 2) (Nat.le_of_ble_eq_true rfl)
  rw [lg_entry_eq]
  generalize (lg_sl ([.ref t, .int i]) ++ List.replicate (2 - (lg_sl ([.ref t, .int i])).length) Slot.unset).toArray = ls at hl ⊢
  have hl : lv_has ls 2 [(0, .ref t), (1, .int i)] := hl
  refine lv_aload_n hx hb dX5_errorInCell_0 rfl (lv_at hl 0 rfl) ?_
  refine lv_iload_n hx hb dX5_errorInCell_1 rfl (lv_at hl 1 rfl) ?_
  refine lv_iconst (v := 2) hx hb dX5_errorInCell_2 (by decide) ?_
  refine lv_iconst (v := 0) hx hb dX5_errorInCell_3 (by decide) ?_
  refine lv_bipush (v := 79) hx hb dX5_errorInCell_4 (by decide) ?_
  refine cl_pi (rV (As := [.int i, .int 2, .int 0, .int 79]) (rest := []) ⟨hx, hb, hml, hown, hts⟩ (c_X5_errorInNumber l G t X i 2 0 79) (cwV 4 hts gX5_errorInCell_X5_errorInNumber rfl rfl rfl (by decide +kernel) ⟨Nat.le_of_ble_eq_true rfl, Nat.le_of_ble_eq_true rfl⟩) (tx_recv hO hP) hP hO rfl hl.1 (Nat.le_of_ble_eq_true rfl) dX5_errorInCell_6 ⟨Nat.le_of_ble_eq_true rfl, Nat.le_of_ble_eq_true rfl⟩) ?_
  have hE : f_X5_errorInCell X i = f_X5_errorInNumber X i 2 0 79 := (by rw [f_X5_errorInCell])
  exact W.iret hx hb hr (fun t ht hW => ⟨by rw [hE], ht⟩) hS.2.2 dX5_errorInCell_9

def f_X5_errorInCar (X : Tt) (i : Int32) : Int32 :=
  f_X5_errorInNumber X i 2 0 39
set_option maxHeartbeats 4000000 in
set_option maxRecDepth 100000 in
theorem c_X5_errorInCar (l : Launch) (G : GG) (t : Nat) (X : Tt) (i : Int32) : Met l yX5_errorInCar wsX5_errorInCar ({ frames := 2, cells := 0, slots := 0, locals := 49 }) (PcH G [.ref t, .int i] (Tx G t X)) (QP (some (.int (f_X5_errorInCar X i)))) 0 0 noA := by
  refine metH (cc := cX5_errorInCar) (maxL := 2) (ret := (some .int)) (by decide) rfl ?_
  intro p e s m below meth cd hx hb hr hml hown hts hlocks hP hO
  have hS : va_S noA s.heap s.heap [] := va_S.rf
  have hl := lv_entry ([.ref t, .int i]) (n := 2) (Nat.le_of_ble_eq_true rfl)
  rw [lg_entry_eq]
  generalize (lg_sl ([.ref t, .int i]) ++ List.replicate (2 - (lg_sl ([.ref t, .int i])).length) Slot.unset).toArray = ls at hl ⊢
  have hl : lv_has ls 2 [(0, .ref t), (1, .int i)] := hl
  refine lv_aload_n hx hb dX5_errorInCar_0 rfl (lv_at hl 0 rfl) ?_
  refine lv_iload_n hx hb dX5_errorInCar_1 rfl (lv_at hl 1 rfl) ?_
  refine lv_iconst (v := 2) hx hb dX5_errorInCar_2 (by decide) ?_
  refine lv_iconst (v := 0) hx hb dX5_errorInCar_3 (by decide) ?_
  refine lv_bipush (v := 39) hx hb dX5_errorInCar_4 (by decide) ?_
  refine cl_pi (rV (As := [.int i, .int 2, .int 0, .int 39]) (rest := []) ⟨hx, hb, hml, hown, hts⟩ (c_X5_errorInNumber l G t X i 2 0 39) (cwV 4 hts gX5_errorInCar_X5_errorInNumber rfl rfl rfl (by decide +kernel) ⟨Nat.le_of_ble_eq_true rfl, Nat.le_of_ble_eq_true rfl⟩) (tx_recv hO hP) hP hO rfl hl.1 (Nat.le_of_ble_eq_true rfl) dX5_errorInCar_6 ⟨Nat.le_of_ble_eq_true rfl, Nat.le_of_ble_eq_true rfl⟩) ?_
  have hE : f_X5_errorInCar X i = f_X5_errorInNumber X i 2 0 39 := (by rw [f_X5_errorInCar])
  exact W.iret hx hb hr (fun t ht hW => ⟨by rw [hE], ht⟩) hS.2.2 dX5_errorInCar_9

def f_X5_errorInCommand (X : Tt) (i : Int32) : Int32 :=
  if (f_X5_letterAt X i) = 99 then f_X5_firstOf (f_X5_errorInNumber X (i + 1) 1 2 8) (f_X5_errorInNumber X (i + 2) 2 1 99) else
  if (f_X5_letterAt X i) = 104 then f_X5_firstOf (f_X5_errorInCell X (i + 1)) (f_X5_errorInSign X (i + 3)) else
  if (f_X5_letterAt X i) = 108 then f_X5_errorInCar X (i + 1) else
  if (f_X5_letterAt X i) = 109 then f_X5_firstOf (f_X5_errorInCar X (i + 1)) (f_X5_errorInCell X (i + 3)) else
  if (f_X5_letterAt X i) = 112 then f_X5_errorInNumber X (i + 1) 2 1 60 else
  if (f_X5_letterAt X i) = 114 then f_X5_errorInNumber X (i + 1) 1 0 2 else
  if (f_X5_letterAt X i) = 116 then f_X5_errorInCar X (i + 1) else
  i
set_option maxHeartbeats 4000000 in
set_option maxRecDepth 100000 in
theorem c_X5_errorInCommand (l : Launch) (G : GG) (t : Nat) (X : Tt) (i : Int32) : Met l yX5_errorInCommand wsX5_errorInCommand ({ frames := 3, cells := 0, slots := 0, locals := 70 }) (PcH G [.ref t, .int i] (Tx G t X)) (QP (some (.int (f_X5_errorInCommand X i)))) 0 0 noA := by
  refine metH (cc := cX5_errorInCommand) (maxL := 2) (ret := (some .int)) (by decide) rfl ?_
  intro p e s m below meth cd hx hb hr hml hown hts hlocks hP hO
  have hS : va_S noA s.heap s.heap [] := va_S.rf
  have hl := lv_entry ([.ref t, .int i]) (n := 2) (Nat.le_of_ble_eq_true rfl)
  rw [lg_entry_eq]
  generalize (lg_sl ([.ref t, .int i]) ++ List.replicate (2 - (lg_sl ([.ref t, .int i])).length) Slot.unset).toArray = ls at hl ⊢
  have hl : lv_has ls 2 [(0, .ref t), (1, .int i)] := hl
  refine lv_aload_n hx hb dX5_errorInCommand_0 rfl (lv_at hl 0 rfl) ?_
  refine lv_iload_n hx hb dX5_errorInCommand_1 rfl (lv_at hl 1 rfl) ?_
  refine cl_pi (rV (As := [.int i]) (rest := []) ⟨hx, hb, hml, hown, hts⟩ (c_X5_letterAt l G t X i) (cwV 1 hts gX5_errorInCommand_X5_letterAt rfl rfl rfl (by decide +kernel) ⟨Nat.le_of_ble_eq_true rfl, Nat.le_of_ble_eq_true rfl⟩) (tx_recv hO hP) hP hO rfl hl.1 (Nat.le_of_ble_eq_true rfl) dX5_errorInCommand_2 ⟨Nat.le_of_ble_eq_true rfl, Nat.le_of_ble_eq_true rfl⟩) ?_
  by_cases c_1 : (f_X5_letterAt X i) = 99
  · refine lv_tableIn (off := 105) (tgt := 110) hx hb dX5_errorInCommand_5 (by rw [c_1]; decide) (by rw [c_1]; decide) (by rw [c_1]; decide +kernel) (by decide) ?_
    refine lv_aload_n hx hb dX5_errorInCommand_110 rfl (lv_at hl 0 rfl) ?_
    refine lv_iload_n hx hb dX5_errorInCommand_111 rfl (lv_at hl 1 rfl) ?_
    refine lv_iconst (v := 1) hx hb dX5_errorInCommand_112 (by decide) ?_
    refine lv_iadd hx hb dX5_errorInCommand_113 ?_
    refine lv_iconst (v := 1) hx hb dX5_errorInCommand_114 (by decide) ?_
    refine lv_iconst (v := 2) hx hb dX5_errorInCommand_115 (by decide) ?_
    refine lv_bipush (v := 8) hx hb dX5_errorInCommand_116 (by decide) ?_
    refine cl_pi (rV (As := [.int (i + 1), .int 1, .int 2, .int 8]) (rest := []) ⟨hx, hb, hml, hown, hts⟩ (c_X5_errorInNumber l G t X (i + 1) 1 2 8) (cwV 4 hts gX5_errorInCommand_X5_errorInNumber rfl rfl rfl (by decide +kernel) ⟨Nat.le_of_ble_eq_true rfl, Nat.le_of_ble_eq_true rfl⟩) (tx_recv hO hP) hP hO rfl hl.1 (Nat.le_of_ble_eq_true rfl) dX5_errorInCommand_118 ⟨Nat.le_of_ble_eq_true rfl, Nat.le_of_ble_eq_true rfl⟩) ?_
    refine lv_aload_n hx hb dX5_errorInCommand_121 rfl (lv_at hl 0 rfl) ?_
    refine lv_iload_n hx hb dX5_errorInCommand_122 rfl (lv_at hl 1 rfl) ?_
    refine lv_iconst (v := 2) hx hb dX5_errorInCommand_123 (by decide) ?_
    refine lv_iadd hx hb dX5_errorInCommand_124 ?_
    refine lv_iconst (v := 2) hx hb dX5_errorInCommand_125 (by decide) ?_
    refine lv_iconst (v := 1) hx hb dX5_errorInCommand_126 (by decide) ?_
    refine lv_bipush (v := 99) hx hb dX5_errorInCommand_127 (by decide) ?_
    refine cl_pi (rV (As := [.int (i + 2), .int 2, .int 1, .int 99]) (rest := [.int (f_X5_errorInNumber X (i + 1) 1 2 8)]) ⟨hx, hb, hml, hown, hts⟩ (c_X5_errorInNumber l G t X (i + 2) 2 1 99) (cwV 4 hts gX5_errorInCommand_X5_errorInNumber rfl rfl rfl (by decide +kernel) ⟨Nat.le_of_ble_eq_true rfl, Nat.le_of_ble_eq_true rfl⟩) (tx_recv hO hP) hP hO rfl hl.1 (Nat.le_of_ble_eq_true rfl) dX5_errorInCommand_129 ⟨Nat.le_of_ble_eq_true rfl, Nat.le_of_ble_eq_true rfl⟩) ?_
    refine cl_pi (rS (As := [.int (f_X5_errorInNumber X (i + 1) 1 2 8), .int (f_X5_errorInNumber X (i + 2) 2 1 99)]) (rest := []) ⟨hx, hb, hml, hown, hts⟩ (c_X5_firstOf l G (f_X5_errorInNumber X (i + 1) 1 2 8) (f_X5_errorInNumber X (i + 2) 2 1 99)) (va_cwS 2 hts gX5_errorInCommand_X5_firstOf rfl rfl rfl (by decide +kernel) ⟨Nat.le_of_ble_eq_true rfl, Nat.le_of_ble_eq_true rfl⟩) trivial hO rfl hl.1 (Nat.le_of_ble_eq_true rfl) dX5_errorInCommand_132 ⟨Nat.le_of_ble_eq_true rfl, Nat.le_of_ble_eq_true rfl⟩) ?_
    have hE : f_X5_errorInCommand X i = f_X5_firstOf (f_X5_errorInNumber X (i + 1) 1 2 8) (f_X5_errorInNumber X (i + 2) 2 1 99) := (by rw [f_X5_errorInCommand, if_pos c_1])
    exact W.iret hx hb hr (fun t ht hW => ⟨by rw [hE], ht⟩) hS.2.2 dX5_errorInCommand_135
  by_cases c_2 : (f_X5_letterAt X i) = 104
  · refine lv_tableIn (off := 87) (tgt := 92) hx hb dX5_errorInCommand_5 (by rw [c_2]; decide) (by rw [c_2]; decide) (by rw [c_2]; decide +kernel) (by decide) ?_
    refine lv_aload_n hx hb dX5_errorInCommand_92 rfl (lv_at hl 0 rfl) ?_
    refine lv_iload_n hx hb dX5_errorInCommand_93 rfl (lv_at hl 1 rfl) ?_
    refine lv_iconst (v := 1) hx hb dX5_errorInCommand_94 (by decide) ?_
    refine lv_iadd hx hb dX5_errorInCommand_95 ?_
    refine cl_pi (rV (As := [.int (i + 1)]) (rest := []) ⟨hx, hb, hml, hown, hts⟩ (c_X5_errorInCell l G t X (i + 1)) (cwV 1 hts gX5_errorInCommand_X5_errorInCell rfl rfl rfl (by decide +kernel) ⟨Nat.le_of_ble_eq_true rfl, Nat.le_of_ble_eq_true rfl⟩) (tx_recv hO hP) hP hO rfl hl.1 (Nat.le_of_ble_eq_true rfl) dX5_errorInCommand_96 ⟨Nat.le_of_ble_eq_true rfl, Nat.le_of_ble_eq_true rfl⟩) ?_
    refine lv_aload_n hx hb dX5_errorInCommand_99 rfl (lv_at hl 0 rfl) ?_
    refine lv_iload_n hx hb dX5_errorInCommand_100 rfl (lv_at hl 1 rfl) ?_
    refine lv_iconst (v := 3) hx hb dX5_errorInCommand_101 (by decide) ?_
    refine lv_iadd hx hb dX5_errorInCommand_102 ?_
    refine cl_pi (rV (As := [.int (i + 3)]) (rest := [.int (f_X5_errorInCell X (i + 1))]) ⟨hx, hb, hml, hown, hts⟩ (c_X5_errorInSign l G t X (i + 3)) (cwV 1 hts gX5_errorInCommand_X5_errorInSign rfl rfl rfl (by decide +kernel) ⟨Nat.le_of_ble_eq_true rfl, Nat.le_of_ble_eq_true rfl⟩) (tx_recv hO hP) hP hO rfl hl.1 (Nat.le_of_ble_eq_true rfl) dX5_errorInCommand_103 ⟨Nat.le_of_ble_eq_true rfl, Nat.le_of_ble_eq_true rfl⟩) ?_
    refine cl_pi (rS (As := [.int (f_X5_errorInCell X (i + 1)), .int (f_X5_errorInSign X (i + 3))]) (rest := []) ⟨hx, hb, hml, hown, hts⟩ (c_X5_firstOf l G (f_X5_errorInCell X (i + 1)) (f_X5_errorInSign X (i + 3))) (va_cwS 2 hts gX5_errorInCommand_X5_firstOf rfl rfl rfl (by decide +kernel) ⟨Nat.le_of_ble_eq_true rfl, Nat.le_of_ble_eq_true rfl⟩) trivial hO rfl hl.1 (Nat.le_of_ble_eq_true rfl) dX5_errorInCommand_106 ⟨Nat.le_of_ble_eq_true rfl, Nat.le_of_ble_eq_true rfl⟩) ?_
    have hE : f_X5_errorInCommand X i = f_X5_firstOf (f_X5_errorInCell X (i + 1)) (f_X5_errorInSign X (i + 3)) := (by rw [f_X5_errorInCommand, if_neg c_1, if_pos c_2])
    exact W.iret hx hb hr (fun t ht hW => ⟨by rw [hE], ht⟩) hS.2.2 dX5_errorInCommand_109
  by_cases c_3 : (f_X5_letterAt X i) = 108
  · refine lv_tableIn (off := 131) (tgt := 136) hx hb dX5_errorInCommand_5 (by rw [c_3]; decide) (by rw [c_3]; decide) (by rw [c_3]; decide +kernel) (by decide) ?_
    refine lv_aload_n hx hb dX5_errorInCommand_136 rfl (lv_at hl 0 rfl) ?_
    refine lv_iload_n hx hb dX5_errorInCommand_137 rfl (lv_at hl 1 rfl) ?_
    refine lv_iconst (v := 1) hx hb dX5_errorInCommand_138 (by decide) ?_
    refine lv_iadd hx hb dX5_errorInCommand_139 ?_
    refine cl_pi (rV (As := [.int (i + 1)]) (rest := []) ⟨hx, hb, hml, hown, hts⟩ (c_X5_errorInCar l G t X (i + 1)) (cwV 1 hts gX5_errorInCommand_X5_errorInCar rfl rfl rfl (by decide +kernel) ⟨Nat.le_of_ble_eq_true rfl, Nat.le_of_ble_eq_true rfl⟩) (tx_recv hO hP) hP hO rfl hl.1 (Nat.le_of_ble_eq_true rfl) dX5_errorInCommand_140 ⟨Nat.le_of_ble_eq_true rfl, Nat.le_of_ble_eq_true rfl⟩) ?_
    have hE : f_X5_errorInCommand X i = f_X5_errorInCar X (i + 1) := (by rw [f_X5_errorInCommand, if_neg c_1, if_neg c_2, if_pos c_3])
    exact W.iret hx hb hr (fun t ht hW => ⟨by rw [hE], ht⟩) hS.2.2 dX5_errorInCommand_143
  by_cases c_4 : (f_X5_letterAt X i) = 109
  · refine lv_tableIn (off := 147) (tgt := 152) hx hb dX5_errorInCommand_5 (by rw [c_4]; decide) (by rw [c_4]; decide) (by rw [c_4]; decide +kernel) (by decide) ?_
    refine lv_aload_n hx hb dX5_errorInCommand_152 rfl (lv_at hl 0 rfl) ?_
    refine lv_iload_n hx hb dX5_errorInCommand_153 rfl (lv_at hl 1 rfl) ?_
    refine lv_iconst (v := 1) hx hb dX5_errorInCommand_154 (by decide) ?_
    refine lv_iadd hx hb dX5_errorInCommand_155 ?_
    refine cl_pi (rV (As := [.int (i + 1)]) (rest := []) ⟨hx, hb, hml, hown, hts⟩ (c_X5_errorInCar l G t X (i + 1)) (cwV 1 hts gX5_errorInCommand_X5_errorInCar rfl rfl rfl (by decide +kernel) ⟨Nat.le_of_ble_eq_true rfl, Nat.le_of_ble_eq_true rfl⟩) (tx_recv hO hP) hP hO rfl hl.1 (Nat.le_of_ble_eq_true rfl) dX5_errorInCommand_156 ⟨Nat.le_of_ble_eq_true rfl, Nat.le_of_ble_eq_true rfl⟩) ?_
    refine lv_aload_n hx hb dX5_errorInCommand_159 rfl (lv_at hl 0 rfl) ?_
    refine lv_iload_n hx hb dX5_errorInCommand_160 rfl (lv_at hl 1 rfl) ?_
    refine lv_iconst (v := 3) hx hb dX5_errorInCommand_161 (by decide) ?_
    refine lv_iadd hx hb dX5_errorInCommand_162 ?_
    refine cl_pi (rV (As := [.int (i + 3)]) (rest := [.int (f_X5_errorInCar X (i + 1))]) ⟨hx, hb, hml, hown, hts⟩ (c_X5_errorInCell l G t X (i + 3)) (cwV 1 hts gX5_errorInCommand_X5_errorInCell rfl rfl rfl (by decide +kernel) ⟨Nat.le_of_ble_eq_true rfl, Nat.le_of_ble_eq_true rfl⟩) (tx_recv hO hP) hP hO rfl hl.1 (Nat.le_of_ble_eq_true rfl) dX5_errorInCommand_163 ⟨Nat.le_of_ble_eq_true rfl, Nat.le_of_ble_eq_true rfl⟩) ?_
    refine cl_pi (rS (As := [.int (f_X5_errorInCar X (i + 1)), .int (f_X5_errorInCell X (i + 3))]) (rest := []) ⟨hx, hb, hml, hown, hts⟩ (c_X5_firstOf l G (f_X5_errorInCar X (i + 1)) (f_X5_errorInCell X (i + 3))) (va_cwS 2 hts gX5_errorInCommand_X5_firstOf rfl rfl rfl (by decide +kernel) ⟨Nat.le_of_ble_eq_true rfl, Nat.le_of_ble_eq_true rfl⟩) trivial hO rfl hl.1 (Nat.le_of_ble_eq_true rfl) dX5_errorInCommand_166 ⟨Nat.le_of_ble_eq_true rfl, Nat.le_of_ble_eq_true rfl⟩) ?_
    have hE : f_X5_errorInCommand X i = f_X5_firstOf (f_X5_errorInCar X (i + 1)) (f_X5_errorInCell X (i + 3)) := (by rw [f_X5_errorInCommand, if_neg c_1, if_neg c_2, if_neg c_3, if_pos c_4])
    exact W.iret hx hb hr (fun t ht hW => ⟨by rw [hE], ht⟩) hS.2.2 dX5_errorInCommand_169
  by_cases c_5 : (f_X5_letterAt X i) = 112
  · refine lv_tableIn (off := 176) (tgt := 181) hx hb dX5_errorInCommand_5 (by rw [c_5]; decide) (by rw [c_5]; decide) (by rw [c_5]; decide +kernel) (by decide) ?_
    refine lv_aload_n hx hb dX5_errorInCommand_181 rfl (lv_at hl 0 rfl) ?_
    refine lv_iload_n hx hb dX5_errorInCommand_182 rfl (lv_at hl 1 rfl) ?_
    refine lv_iconst (v := 1) hx hb dX5_errorInCommand_183 (by decide) ?_
    refine lv_iadd hx hb dX5_errorInCommand_184 ?_
    refine lv_iconst (v := 2) hx hb dX5_errorInCommand_185 (by decide) ?_
    refine lv_iconst (v := 1) hx hb dX5_errorInCommand_186 (by decide) ?_
    refine lv_bipush (v := 60) hx hb dX5_errorInCommand_187 (by decide) ?_
    refine cl_pi (rV (As := [.int (i + 1), .int 2, .int 1, .int 60]) (rest := []) ⟨hx, hb, hml, hown, hts⟩ (c_X5_errorInNumber l G t X (i + 1) 2 1 60) (cwV 4 hts gX5_errorInCommand_X5_errorInNumber rfl rfl rfl (by decide +kernel) ⟨Nat.le_of_ble_eq_true rfl, Nat.le_of_ble_eq_true rfl⟩) (tx_recv hO hP) hP hO rfl hl.1 (Nat.le_of_ble_eq_true rfl) dX5_errorInCommand_189 ⟨Nat.le_of_ble_eq_true rfl, Nat.le_of_ble_eq_true rfl⟩) ?_
    have hE : f_X5_errorInCommand X i = f_X5_errorInNumber X (i + 1) 2 1 60 := (by rw [f_X5_errorInCommand, if_neg c_1, if_neg c_2, if_neg c_3, if_neg c_4, if_pos c_5])
    exact W.iret hx hb hr (fun t ht hW => ⟨by rw [hE], ht⟩) hS.2.2 dX5_errorInCommand_192
  by_cases c_6 : (f_X5_letterAt X i) = 114
  · refine lv_tableIn (off := 165) (tgt := 170) hx hb dX5_errorInCommand_5 (by rw [c_6]; decide) (by rw [c_6]; decide) (by rw [c_6]; decide +kernel) (by decide) ?_
    refine lv_aload_n hx hb dX5_errorInCommand_170 rfl (lv_at hl 0 rfl) ?_
    refine lv_iload_n hx hb dX5_errorInCommand_171 rfl (lv_at hl 1 rfl) ?_
    refine lv_iconst (v := 1) hx hb dX5_errorInCommand_172 (by decide) ?_
    refine lv_iadd hx hb dX5_errorInCommand_173 ?_
    refine lv_iconst (v := 1) hx hb dX5_errorInCommand_174 (by decide) ?_
    refine lv_iconst (v := 0) hx hb dX5_errorInCommand_175 (by decide) ?_
    refine lv_iconst (v := 2) hx hb dX5_errorInCommand_176 (by decide) ?_
    refine cl_pi (rV (As := [.int (i + 1), .int 1, .int 0, .int 2]) (rest := []) ⟨hx, hb, hml, hown, hts⟩ (c_X5_errorInNumber l G t X (i + 1) 1 0 2) (cwV 4 hts gX5_errorInCommand_X5_errorInNumber rfl rfl rfl (by decide +kernel) ⟨Nat.le_of_ble_eq_true rfl, Nat.le_of_ble_eq_true rfl⟩) (tx_recv hO hP) hP hO rfl hl.1 (Nat.le_of_ble_eq_true rfl) dX5_errorInCommand_177 ⟨Nat.le_of_ble_eq_true rfl, Nat.le_of_ble_eq_true rfl⟩) ?_
    have hE : f_X5_errorInCommand X i = f_X5_errorInNumber X (i + 1) 1 0 2 := (by rw [f_X5_errorInCommand, if_neg c_1, if_neg c_2, if_neg c_3, if_neg c_4, if_neg c_5, if_pos c_6])
    exact W.iret hx hb hr (fun t ht hW => ⟨by rw [hE], ht⟩) hS.2.2 dX5_errorInCommand_180
  by_cases c_7 : (f_X5_letterAt X i) = 116
  · refine lv_tableIn (off := 139) (tgt := 144) hx hb dX5_errorInCommand_5 (by rw [c_7]; decide) (by rw [c_7]; decide) (by rw [c_7]; decide +kernel) (by decide) ?_
    refine lv_aload_n hx hb dX5_errorInCommand_144 rfl (lv_at hl 0 rfl) ?_
    refine lv_iload_n hx hb dX5_errorInCommand_145 rfl (lv_at hl 1 rfl) ?_
    refine lv_iconst (v := 1) hx hb dX5_errorInCommand_146 (by decide) ?_
    refine lv_iadd hx hb dX5_errorInCommand_147 ?_
    refine cl_pi (rV (As := [.int (i + 1)]) (rest := []) ⟨hx, hb, hml, hown, hts⟩ (c_X5_errorInCar l G t X (i + 1)) (cwV 1 hts gX5_errorInCommand_X5_errorInCar rfl rfl rfl (by decide +kernel) ⟨Nat.le_of_ble_eq_true rfl, Nat.le_of_ble_eq_true rfl⟩) (tx_recv hO hP) hP hO rfl hl.1 (Nat.le_of_ble_eq_true rfl) dX5_errorInCommand_148 ⟨Nat.le_of_ble_eq_true rfl, Nat.le_of_ble_eq_true rfl⟩) ?_
    have hE : f_X5_errorInCommand X i = f_X5_errorInCar X (i + 1) := (by rw [f_X5_errorInCommand, if_neg c_1, if_neg c_2, if_neg c_3, if_neg c_4, if_neg c_5, if_neg c_6, if_pos c_7])
    exact W.iret hx hb hr (fun t ht hW => ⟨by rw [hE], ht⟩) hS.2.2 dX5_errorInCommand_151
  refine lv_tableD (tgt := 193) hx hb dX5_errorInCommand_5 (by intro i h1 h2 h3; rcases (show i = 99 ∨ i = 100 ∨ i = 101 ∨ i = 102 ∨ i = 103 ∨ i = 104 ∨ i = 105 ∨ i = 106 ∨ i = 107 ∨ i = 108 ∨ i = 109 ∨ i = 110 ∨ i = 111 ∨ i = 112 ∨ i = 113 ∨ i = 114 ∨ i = 115 ∨ i = 116 by omega) with rfl | rfl | rfl | rfl | rfl | rfl | rfl | rfl | rfl | rfl | rfl | rfl | rfl | rfl | rfl | rfl | rfl | rfl; all_goals first | decide +kernel | (clear h1 h2; first | exact absurd (Int32.toInt_inj.mp (h3.symm.trans (show (99 : Int) = (99 : Int32).toInt by decide))) c_1 | exact absurd (Int32.toInt_inj.mp (h3.symm.trans (show (104 : Int) = (104 : Int32).toInt by decide))) c_2 | exact absurd (Int32.toInt_inj.mp (h3.symm.trans (show (108 : Int) = (108 : Int32).toInt by decide))) c_3 | exact absurd (Int32.toInt_inj.mp (h3.symm.trans (show (109 : Int) = (109 : Int32).toInt by decide))) c_4 | exact absurd (Int32.toInt_inj.mp (h3.symm.trans (show (112 : Int) = (112 : Int32).toInt by decide))) c_5 | exact absurd (Int32.toInt_inj.mp (h3.symm.trans (show (114 : Int) = (114 : Int32).toInt by decide))) c_6 | exact absurd (Int32.toInt_inj.mp (h3.symm.trans (show (116 : Int) = (116 : Int32).toInt by decide))) c_7)) (by decide) ?_
  refine lv_iload_n hx hb dX5_errorInCommand_193 rfl (lv_at hl 1 rfl) ?_
  have hE : f_X5_errorInCommand X i = i := (by rw [f_X5_errorInCommand, if_neg c_1, if_neg c_2, if_neg c_3, if_neg c_4, if_neg c_5, if_neg c_6, if_neg c_7])
  exact W.iret hx hb hr (fun t ht hW => ⟨by rw [hE], ht⟩) hS.2.2 dX5_errorInCommand_194

def lp_firstErr (X : Tt) : Nat → Nat → Int32 → Int32
  | 0, _, _ => 0
  | n + 1, k, start => if 120 ≤ (nI k) then (-1) else
    if (f_X5_hasLetter X start) = 0 then (-1) else
    if (f_X5_errorInCommand X start) = (-1) then lp_firstErr X n (k + 1) (start + (f_X5_commandSize X start)) else
    f_X5_errorInCommand X start
def f_X5_firstError (X : Tt) : Int32 :=
  if (f_X5_letterAt X 0) = 83 then lp_firstErr X (120 + 1) 0 1 else
  0
set_option maxHeartbeats 4000000 in
set_option maxRecDepth 100000 in
theorem c_X5_firstError (l : Launch) (G : GG) (t : Nat) (X : Tt) : Met l yX5_firstError wsX5_firstError ({ frames := 4, cells := 0, slots := 0, locals := 91 }) (PcH G [.ref t] (Tx G t X)) (QP (some (.int (f_X5_firstError X)))) 0 0 noA := by
  refine metH (cc := cX5_firstError) (maxL := 4) (ret := (some .int)) (by decide) rfl ?_
  intro p e s m below meth cd hx hb hr hml hown hts hlocks hP hO
  have hS : va_S noA s.heap s.heap [] := va_S.rf
  have hl := lv_entry ([.ref t]) (n := 4) (Nat.le_of_ble_eq_true rfl)
  rw [lg_entry_eq]
  generalize (lg_sl ([.ref t]) ++ List.replicate (4 - (lg_sl ([.ref t])).length) Slot.unset).toArray = ls at hl ⊢
  have hl : lv_has ls 4 [(0, .ref t)] := hl
  have loop16 : ∀ (n : Nat) (k : Nat) (start : Int32) , k ≤ 120 → k + n = 120 + 1 → f_X5_firstError X = lp_firstErr X n k start → ∀ (ls : Array Slot), lv_has ls 4 [(0, .ref t), (1, .int start), (2, .int (nI k))] → W p l e (headSpec wsX5_firstError ({ frames := 4, cells := 0, slots := 0, locals := 91 } : Room)).room s m ([.ref t] : List Value).toArray below meth cd s.heap [] 0 0 (MQ below (QP (some (.int (f_X5_firstError X)))) ([.ref t] : List Value).toArray s 0 0 noA) (F0 m 16 ls []) := by
    intro n
    induction n with
    | zero =>
      intro k start hk hn hR ls hl
      exact absurd hn (by omega)
    | succ n ih =>
      intro k start hk hn hR ls hl
      refine lv_iload_n hx hb dX5_firstError_16 rfl (lv_at hl 2 rfl) ?_
      refine lv_bipush (v := 120) hx hb dX5_firstError_17 (by decide) ?_
      refine lv_icmp_ge (tgt := 57) hx hb dX5_firstError_19 (by decide) (fun c_1 => ?_) (fun c_1 => ?_)
      · refine lv_iconst (v := -1) hx hb dX5_firstError_57 (by decide) ?_
        have hE : f_X5_firstError X = (-1) := (hR.trans (by rw [lp_firstErr, if_pos c_1]))
        exact W.iret hx hb hr (fun t ht hW => ⟨by rw [hE], ht⟩) hS.2.2 dX5_firstError_58
      · have hlt : k < 120 := kN (B := 120) c_1 (by omega) (by omega)
        refine lv_aload_n hx hb dX5_firstError_22 rfl (lv_at hl 0 rfl) ?_
        refine lv_iload_n hx hb dX5_firstError_23 rfl (lv_at hl 1 rfl) ?_
        refine cl_pi (rV (As := [.int start]) (rest := []) ⟨hx, hb, hml, hown, hts⟩ (c_X5_hasLetter l G t X start) (cwV 1 hts gX5_firstError_X5_hasLetter rfl rfl rfl (by decide +kernel) ⟨Nat.le_of_ble_eq_true rfl, Nat.le_of_ble_eq_true rfl⟩) (tx_recv hO hP) hP hO rfl hl.1 (Nat.le_of_ble_eq_true rfl) dX5_firstError_24 ⟨Nat.le_of_ble_eq_true rfl, Nat.le_of_ble_eq_true rfl⟩) ?_
        refine lv_if_eq (tgt := 57) hx hb dX5_firstError_27 (by decide) (fun c_2 => ?_) (fun c_2 => ?_)
        · refine lv_iconst (v := -1) hx hb dX5_firstError_57 (by decide) ?_
          have hE : f_X5_firstError X = (-1) := (hR.trans (by rw [lp_firstErr, if_neg c_1, if_pos c_2]))
          exact W.iret hx hb hr (fun t ht hW => ⟨by rw [hE], ht⟩) hS.2.2 dX5_firstError_58
        · refine lv_aload_n hx hb dX5_firstError_30 rfl (lv_at hl 0 rfl) ?_
          refine lv_iload_n hx hb dX5_firstError_31 rfl (lv_at hl 1 rfl) ?_
          refine cl_pi (rV (As := [.int start]) (rest := []) ⟨hx, hb, hml, hown, hts⟩ (c_X5_errorInCommand l G t X start) (cwV 1 hts gX5_firstError_X5_errorInCommand rfl rfl rfl (by decide +kernel) ⟨Nat.le_of_ble_eq_true rfl, Nat.le_of_ble_eq_true rfl⟩) (tx_recv hO hP) hP hO rfl hl.1 (Nat.le_of_ble_eq_true rfl) dX5_firstError_32 ⟨Nat.le_of_ble_eq_true rfl, Nat.le_of_ble_eq_true rfl⟩) ?_
          refine lv_istore_n (lv' := [(3, .int (f_X5_errorInCommand X start)), (0, .ref t), (1, .int start), (2, .int (nI k))]) hx hb dX5_firstError_35 rfl hl (by decide) rfl (fun ls hl => ?_)
          refine lv_iload_n hx hb dX5_firstError_36 rfl (lv_at hl 0 rfl) ?_
          refine lv_iconst (v := -1) hx hb dX5_firstError_37 (by decide) ?_
          refine lv_icmp_eq (tgt := 43) hx hb dX5_firstError_38 (by decide) (fun c_3 => ?_) (fun c_3 => ?_)
          · refine lv_iload_n hx hb dX5_firstError_43 rfl (lv_at hl 2 rfl) ?_
            refine lv_aload_n hx hb dX5_firstError_44 rfl (lv_at hl 1 rfl) ?_
            refine lv_iload_n hx hb dX5_firstError_45 rfl (lv_at hl 2 rfl) ?_
            refine cl_pi (rV (As := [.int start]) (rest := [.int start]) ⟨hx, hb, hml, hown, hts⟩ (c_X5_commandSize l G t X start) (cwV 1 hts gX5_firstError_X5_commandSize rfl rfl rfl (by decide +kernel) ⟨Nat.le_of_ble_eq_true rfl, Nat.le_of_ble_eq_true rfl⟩) (tx_recv hO hP) hP hO rfl hl.1 (Nat.le_of_ble_eq_true rfl) dX5_firstError_46 ⟨Nat.le_of_ble_eq_true rfl, Nat.le_of_ble_eq_true rfl⟩) ?_
            refine lv_iadd hx hb dX5_firstError_49 ?_
            refine lv_istore_n (lv' := [(1, .int (start + (f_X5_commandSize X start))), (3, .int (f_X5_errorInCommand X start)), (0, .ref t), (2, .int (nI k))]) hx hb dX5_firstError_50 rfl hl (by decide) rfl (fun ls hl => ?_)
            refine lv_iinc (v := nI (k + 1)) (lv' := [(2, .int (nI (k + 1))), (1, .int (start + (f_X5_commandSize X start))), (3, .int (f_X5_errorInCommand X start)), (0, .ref t)]) hx hb dX5_firstError_51 hl (k := 3) rfl (nI_1 _) (by decide) rfl (fun ls hl => ?_)
            refine lv_goto (tgt := 16) hx hb dX5_firstError_54 (by decide) ?_
            have hE_4 : f_X5_firstError X = lp_firstErr X n (k + 1) (start + (f_X5_commandSize X start)) := (hR.trans (by rw [lp_firstErr, if_neg c_1, if_neg c_2, if_pos c_3]))
            exact ih (k + 1) (start + (f_X5_commandSize X start)) (by omega) (by omega) hE_4 _ (lv_sub hl [3, 1, 0] rfl)
          · refine lv_iload_n hx hb dX5_firstError_41 rfl (lv_at hl 0 rfl) ?_
            have hE : f_X5_firstError X = f_X5_errorInCommand X start := (hR.trans (by rw [lp_firstErr, if_neg c_1, if_neg c_2, if_neg c_3]))
            exact W.iret hx hb hr (fun t ht hW => ⟨by rw [hE], ht⟩) hS.2.2 dX5_firstError_42
  refine lv_aload_n hx hb dX5_firstError_0 rfl (lv_at hl 0 rfl) ?_
  refine lv_iconst (v := 0) hx hb dX5_firstError_1 (by decide) ?_
  refine cl_pi (rV (As := [.int 0]) (rest := []) ⟨hx, hb, hml, hown, hts⟩ (c_X5_letterAt l G t X 0) (cwV 1 hts gX5_firstError_X5_letterAt rfl rfl rfl (by decide +kernel) ⟨Nat.le_of_ble_eq_true rfl, Nat.le_of_ble_eq_true rfl⟩) (tx_recv hO hP) hP hO rfl hl.1 (Nat.le_of_ble_eq_true rfl) dX5_firstError_2 ⟨Nat.le_of_ble_eq_true rfl, Nat.le_of_ble_eq_true rfl⟩) ?_
  refine lv_bipush (v := 83) hx hb dX5_firstError_5 (by decide) ?_
  refine lv_icmp_eq (tgt := 12) hx hb dX5_firstError_7 (by decide) (fun c_5 => ?_) (fun c_5 => ?_)
  · refine lv_iconst (v := 1) hx hb dX5_firstError_12 (by decide) ?_
    refine lv_istore_n (lv' := [(1, .int 1), (0, .ref t)]) hx hb dX5_firstError_13 rfl hl (by decide) rfl (fun ls hl => ?_)
    refine lv_iconst (v := 0) hx hb dX5_firstError_14 (by decide) ?_
    refine lv_istore_n (lv' := [(2, .int 0), (1, .int 1), (0, .ref t)]) hx hb dX5_firstError_15 rfl hl (by decide) rfl (fun ls hl => ?_)
    have hE_6 : f_X5_firstError X = lp_firstErr X (120 + 1) 0 1 := (by rw [f_X5_firstError, if_pos c_5])
    exact loop16 (120 + 1) 0 1 (Nat.zero_le _) (by omega) hE_6 _ (lv_sub hl [2, 1, 0] rfl)
  · refine lv_iconst (v := 0) hx hb dX5_firstError_10 (by decide) ?_
    have hE : f_X5_firstError X = 0 := (by rw [f_X5_firstError, if_neg c_5])
    exact W.iret hx hb hr (fun t ht hW => ⟨by rw [hE], ht⟩) hS.2.2 dX5_firstError_11

def f_X5_digit (X : Tt) (i : Int32) : Int32 :=
  (f_X5_letterAt X i) - 48
set_option maxHeartbeats 4000000 in
set_option maxRecDepth 100000 in
theorem c_X5_digit (l : Launch) (G : GG) (t : Nat) (X : Tt) (i : Int32) : Met l yX5_digit wsX5_digit ({ frames := 1, cells := 0, slots := 0, locals := 21 }) (PcH G [.ref t, .int i] (Tx G t X)) (QP (some (.int (f_X5_digit X i)))) 0 0 noA := by
  refine metH (cc := cX5_digit) (maxL := 2) (ret := (some .int)) (by decide) rfl ?_
  intro p e s m below meth cd hx hb hr hml hown hts hlocks hP hO
  have hS : va_S noA s.heap s.heap [] := va_S.rf
  have hl := lv_entry ([.ref t, .int i]) (n := 2) (Nat.le_of_ble_eq_true rfl)
  rw [lg_entry_eq]
  generalize (lg_sl ([.ref t, .int i]) ++ List.replicate (2 - (lg_sl ([.ref t, .int i])).length) Slot.unset).toArray = ls at hl ⊢
  have hl : lv_has ls 2 [(0, .ref t), (1, .int i)] := hl
  refine lv_aload_n hx hb dX5_digit_0 rfl (lv_at hl 0 rfl) ?_
  refine lv_iload_n hx hb dX5_digit_1 rfl (lv_at hl 1 rfl) ?_
  refine cl_pi (rV (As := [.int i]) (rest := []) ⟨hx, hb, hml, hown, hts⟩ (c_X5_letterAt l G t X i) (cwV 1 hts gX5_digit_X5_letterAt rfl rfl rfl (by decide +kernel) ⟨Nat.le_of_ble_eq_true rfl, Nat.le_of_ble_eq_true rfl⟩) (tx_recv hO hP) hP hO rfl hl.1 (Nat.le_of_ble_eq_true rfl) dX5_digit_2 ⟨Nat.le_of_ble_eq_true rfl, Nat.le_of_ble_eq_true rfl⟩) ?_
  refine lv_bipush (v := 48) hx hb dX5_digit_5 (by decide) ?_
  refine lv_isub hx hb dX5_digit_7 ?_
  have hE : f_X5_digit X i = (f_X5_letterAt X i) - 48 := (by rw [f_X5_digit])
  exact W.iret hx hb hr (fun t ht hW => ⟨by rw [hE], ht⟩) hS.2.2 dX5_digit_8

def f_X5_twoDigits (X : Tt) (i : Int32) : Int32 :=
  (10 * (f_X5_digit X i)) + (f_X5_digit X (i + 1))
set_option maxHeartbeats 4000000 in
set_option maxRecDepth 100000 in
theorem c_X5_twoDigits (l : Launch) (G : GG) (t : Nat) (X : Tt) (i : Int32) : Met l yX5_twoDigits wsX5_twoDigits ({ frames := 2, cells := 0, slots := 0, locals := 42 }) (PcH G [.ref t, .int i] (Tx G t X)) (QP (some (.int (f_X5_twoDigits X i)))) 0 0 noA := by
  refine metH (cc := cX5_twoDigits) (maxL := 2) (ret := (some .int)) (by decide) rfl ?_
  intro p e s m below meth cd hx hb hr hml hown hts hlocks hP hO
  have hS : va_S noA s.heap s.heap [] := va_S.rf
  have hl := lv_entry ([.ref t, .int i]) (n := 2) (Nat.le_of_ble_eq_true rfl)
  rw [lg_entry_eq]
  generalize (lg_sl ([.ref t, .int i]) ++ List.replicate (2 - (lg_sl ([.ref t, .int i])).length) Slot.unset).toArray = ls at hl ⊢
  have hl : lv_has ls 2 [(0, .ref t), (1, .int i)] := hl
  refine lv_bipush (v := 10) hx hb dX5_twoDigits_0 (by decide) ?_
  refine lv_aload_n hx hb dX5_twoDigits_2 rfl (lv_at hl 0 rfl) ?_
  refine lv_iload_n hx hb dX5_twoDigits_3 rfl (lv_at hl 1 rfl) ?_
  refine cl_pi (rV (As := [.int i]) (rest := [.int 10]) ⟨hx, hb, hml, hown, hts⟩ (c_X5_digit l G t X i) (cwV 1 hts gX5_twoDigits_X5_digit rfl rfl rfl (by decide +kernel) ⟨Nat.le_of_ble_eq_true rfl, Nat.le_of_ble_eq_true rfl⟩) (tx_recv hO hP) hP hO rfl hl.1 (Nat.le_of_ble_eq_true rfl) dX5_twoDigits_4 ⟨Nat.le_of_ble_eq_true rfl, Nat.le_of_ble_eq_true rfl⟩) ?_
  refine lv_imul hx hb dX5_twoDigits_7 ?_
  refine lv_aload_n hx hb dX5_twoDigits_8 rfl (lv_at hl 0 rfl) ?_
  refine lv_iload_n hx hb dX5_twoDigits_9 rfl (lv_at hl 1 rfl) ?_
  refine lv_iconst (v := 1) hx hb dX5_twoDigits_10 (by decide) ?_
  refine lv_iadd hx hb dX5_twoDigits_11 ?_
  refine cl_pi (rV (As := [.int (i + 1)]) (rest := [.int (10 * (f_X5_digit X i))]) ⟨hx, hb, hml, hown, hts⟩ (c_X5_digit l G t X (i + 1)) (cwV 1 hts gX5_twoDigits_X5_digit rfl rfl rfl (by decide +kernel) ⟨Nat.le_of_ble_eq_true rfl, Nat.le_of_ble_eq_true rfl⟩) (tx_recv hO hP) hP hO rfl hl.1 (Nat.le_of_ble_eq_true rfl) dX5_twoDigits_12 ⟨Nat.le_of_ble_eq_true rfl, Nat.le_of_ble_eq_true rfl⟩) ?_
  refine lv_iadd hx hb dX5_twoDigits_15 ?_
  have hE : f_X5_twoDigits X i = (10 * (f_X5_digit X i)) + (f_X5_digit X (i + 1)) := (by rw [f_X5_twoDigits])
  exact W.iret hx hb hr (fun t ht hW => ⟨by rw [hE], ht⟩) hS.2.2 dX5_twoDigits_16
