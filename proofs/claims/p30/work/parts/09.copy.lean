def cpy (n : Nat) (f g : Rw) : Rw := va_cpy f g (0 : Int32).toNatClampNeg (0 : Int32).toNatClampNeg (nI n).toNatClampNeg
theorem cpy_in {n : Nat} {f g : Rw} (hn : n < 2 ^ 31) {j : Nat} (h : j < n) : cpy n f g j = f j := by
  have h0 : (0 : Int32).toNatClampNeg = 0 := by decide
  rw [cpy, nI_clamp hn, h0, pk_cpy_in (Nat.zero_le _) (by omega)]
  congr 1
  omega
/-- a row's cells beyond its length don't count -/
theorem row_cong {c : ClassId} {n : Nat} {f g : Rw} (h : ∀ j, j < n → f j = g j) : vp_cell c (n, .inl f) = vp_cell c (n, .inl g) := by
  rw [vp_cell_i, vp_cell_i]
  have e : (Array.ofFn (n := n) fun j => Value.int (f j.val)) = Array.ofFn (n := n) fun j => Value.int (g j.val) := congrArg Array.ofFn (funext fun j => congrArg Value.int (h j.val j.isLt))
  exact congrArg (fun z : Array Value => ({ cls := c, slots := z, vm := .none } : Cell)) e
abbrev Two (G : GG) (b a n : Nat) (f g : Rw) (H : Heap) : Prop := va_P G.1 vwCl [(b, .inl (G.2 0, n, .inl f)), (a, .inl (G.2 0, n, .inl g))] H
def two (b a : Nat) : Nat → Prop := fun q => q = b ∨ q = a
theorem two_p {G : GG} {b a n : Nat} {f g0 g : Rw} {H : Heap} (h : va_P G.1 vwCl (([(b, .inl (G.2 0, n, .inl f)), (a, .inl (G.2 0, n, .inl g0))] : va_W).set 1 (a, .inl (G.2 0, n, .inl g))) H) : Two G b a n f g H := h
theorem two_D {A : Nat → Prop} {b a : Nat} {x y : va_E} (hd : b ≠ a) (hA : ∀ q, two b a q → A q) : va_D A [(b, x), (a, y)] := by
  refine ⟨fun i j p q hp hq e => ?_, fun k q hk => ?_⟩
  · match i, j, hp, hq with
    | 0, 0, _, _ => rfl
    | 1, 1, _, _ => rfl
    | 0, 1, hp, hq => cases hp; cases hq; exact absurd e hd
    | 1, 0, hp, hq => cases hp; cases hq; exact absurd e.symm hd
    | i + 2, _, hp, _ => simp at hp
    | _, j + 2, _, hq => simp at hq
  · match k, hk with
    | 0, hk => cases hk; exact hA _ (Or.inl rfl)
    | 1, hk => cases hk; exact hA _ (Or.inr rfl)
    | k + 2, hk => simp at hk
def blk2 (a b : Nat) : Nat → Prop := fun q => blk a (a + 9) q ∨ blk b (b + 9) q
abbrev Str2 (G : GG) (a b : Nat) (S T : St) (H : Heap) : Prop := va_P G.1 vwCl (stW G a S ++ stW G b T) H
theorem st2_D {G : GG} {A : Nat → Prop} {a b : Nat} {S T : St} (hd : a + 9 ≤ b ∨ b + 9 ≤ a) (hA : ∀ q, blk2 a b q → A q) : va_D A (stW G a S ++ stW G b T) :=
  va_D.app (st_D a S fun q h => hA q (Or.inl h)) (st_D b T fun q h => hA q (Or.inr h)) (fun i j p q hp hq e => by
    have h1 := st_blk hp
    have h2 := st_blk hq
    omega)
theorem two_row {D : va_G} {cl : List vw_C} {ws : va_W} {A : Nat → Prop} {H H1 : Heap} {a0 a1 n : Nat} {x0 : va_E} {c1 : ClassId} {g g1 : Rw} (p0 p1 : Nat) (hP : va_P D cl ws H) (hD : va_D A ws) (h0 : ws[p0]? = some (a0, x0)) (h1 : ws[p1]? = some (a1, .inl (c1, n, .inl g)))
    (hQ : va_P D cl [(a0, x0), (a1, .inl (c1, n, .inl g1))] H1) (hk : ∀ q : Nat, q < H.size → ¬ two a0 a1 q → H1[q]? = H[q]?) : va_P D cl (ws.set p1 (a1, .inl (c1, n, .inl g1))) H1 := by
  have hl := (List.getElem?_eq_some_iff.mp h1).1
  intro k q hq
  by_cases hkp : k = p1
  · subst hkp
    rw [List.getElem?_set_self hl] at hq
    cases hq
    exact hQ 1 _ rfl
  · rw [List.getElem?_set_ne (Ne.symm hkp)] at hq
    by_cases hk0 : k = p0
    · subst hk0
      rw [h0] at hq
      cases hq
      exact hQ 0 _ rfl
    · refine (hP k q hq).kept (hk q.1 (hP k q hq).lt fun z => ?_)
      rcases z with z | z
      · exact hk0 (hD.1 k p0 q (a0, x0) hq h0 z)
      · exact hkp (hD.1 k p1 q _ hq h1 z)
theorem st2_pN {G : GG} {a b : Nat} {S T : St} {v : Int32} {H : Heap} (h : va_P G.1 vwCl ((stW G a S ++ stW G b T).set 0 (a, .inr (2, ([.ref (a + 1), .ref (a + 2), .ref (a + 3), .ref (a + 4), .ref (a + 5), .ref (a + 6), .ref (a + 7), .ref (a + 8), .int (sN S), .int (sM S), .long (sH S), .int (sU S), .int (sO S), .int (sE S)] : List Value).set 8 (.int v)))) H) : Str2 G a b (wN S v) T H := h
theorem st2_pM {G : GG} {a b : Nat} {S T : St} {v : Int32} {H : Heap} (h : va_P G.1 vwCl ((stW G a S ++ stW G b T).set 0 (a, .inr (2, ([.ref (a + 1), .ref (a + 2), .ref (a + 3), .ref (a + 4), .ref (a + 5), .ref (a + 6), .ref (a + 7), .ref (a + 8), .int (sN S), .int (sM S), .long (sH S), .int (sU S), .int (sO S), .int (sE S)] : List Value).set 9 (.int v)))) H) : Str2 G a b (wM S v) T H := h
theorem st2_pH {G : GG} {a b : Nat} {S T : St} {v : Int64} {H : Heap} (h : va_P G.1 vwCl ((stW G a S ++ stW G b T).set 0 (a, .inr (2, ([.ref (a + 1), .ref (a + 2), .ref (a + 3), .ref (a + 4), .ref (a + 5), .ref (a + 6), .ref (a + 7), .ref (a + 8), .int (sN S), .int (sM S), .long (sH S), .int (sU S), .int (sO S), .int (sE S)] : List Value).set 10 (.long v)))) H) : Str2 G a b (wH S v) T H := h
theorem st2_pU {G : GG} {a b : Nat} {S T : St} {v : Int32} {H : Heap} (h : va_P G.1 vwCl ((stW G a S ++ stW G b T).set 0 (a, .inr (2, ([.ref (a + 1), .ref (a + 2), .ref (a + 3), .ref (a + 4), .ref (a + 5), .ref (a + 6), .ref (a + 7), .ref (a + 8), .int (sN S), .int (sM S), .long (sH S), .int (sU S), .int (sO S), .int (sE S)] : List Value).set 11 (.int v)))) H) : Str2 G a b (wU S v) T H := h
theorem st2_pO {G : GG} {a b : Nat} {S T : St} {v : Int32} {H : Heap} (h : va_P G.1 vwCl ((stW G a S ++ stW G b T).set 0 (a, .inr (2, ([.ref (a + 1), .ref (a + 2), .ref (a + 3), .ref (a + 4), .ref (a + 5), .ref (a + 6), .ref (a + 7), .ref (a + 8), .int (sN S), .int (sM S), .long (sH S), .int (sU S), .int (sO S), .int (sE S)] : List Value).set 12 (.int v)))) H) : Str2 G a b (wO S v) T H := h
theorem st2_pE {G : GG} {a b : Nat} {S T : St} {v : Int32} {H : Heap} (h : va_P G.1 vwCl ((stW G a S ++ stW G b T).set 0 (a, .inr (2, ([.ref (a + 1), .ref (a + 2), .ref (a + 3), .ref (a + 4), .ref (a + 5), .ref (a + 6), .ref (a + 7), .ref (a + 8), .int (sN S), .int (sM S), .long (sH S), .int (sU S), .int (sO S), .int (sE S)] : List Value).set 13 (.int v)))) H) : Str2 G a b (wE S v) T H := h
theorem st2_pC {G : GG} {a b : Nat} {S T : St} {v : Rw} {H : Heap} (h : va_P G.1 vwCl ((stW G a S ++ stW G b T).set 1 (a + 1, .inl (G.2 0, 80, .inl v))) H) : Str2 G a b (wC S v) T H := h
theorem st2_pG {G : GG} {a b : Nat} {S T : St} {v : Rw} {H : Heap} (h : va_P G.1 vwCl ((stW G a S ++ stW G b T).set 2 (a + 2, .inl (G.2 0, 80, .inl v))) H) : Str2 G a b (wG S v) T H := h
theorem st2_pL {G : GG} {a b : Nat} {S T : St} {v : Rw} {H : Heap} (h : va_P G.1 vwCl ((stW G a S ++ stW G b T).set 3 (a + 3, .inl (G.2 0, 40, .inl v))) H) : Str2 G a b (wL S v) T H := h
theorem st2_pY {G : GG} {a b : Nat} {S T : St} {v : Rw} {H : Heap} (h : va_P G.1 vwCl ((stW G a S ++ stW G b T).set 4 (a + 4, .inl (G.2 0, 40, .inl v))) H) : Str2 G a b (wY S v) T H := h
theorem st2_pT {G : GG} {a b : Nat} {S T : St} {v : Rw} {H : Heap} (h : va_P G.1 vwCl ((stW G a S ++ stW G b T).set 5 (a + 5, .inl (G.2 0, 40, .inl v))) H) : Str2 G a b (wT S v) T H := h
theorem st2_pP {G : GG} {a b : Nat} {S T : St} {v : Rw} {H : Heap} (h : va_P G.1 vwCl ((stW G a S ++ stW G b T).set 6 (a + 6, .inl (G.2 0, 40, .inl v))) H) : Str2 G a b (wP S v) T H := h
theorem st2_pK {G : GG} {a b : Nat} {S T : St} {v : Rw} {H : Heap} (h : va_P G.1 vwCl ((stW G a S ++ stW G b T).set 7 (a + 7, .inl (G.2 0, 40, .inl v))) H) : Str2 G a b (wK S v) T H := h
theorem st2_pR {G : GG} {a b : Nat} {S T : St} {v : Rw} {H : Heap} (h : va_P G.1 vwCl ((stW G a S ++ stW G b T).set 8 (a + 8, .inl (G.2 0, 40, .inl v))) H) : Str2 G a b (wR S v) T H := h

def lp_fillA (w : Nat) (v : Int32) : Nat → Nat → Rw → Rw
  | 0, _, f2 => f2
  | n + 1, k, f2 => if (nI w) ≤ (nI k) then f2 else
    lp_fillA w v n (k + 1) (upd f2 k v)
def h_J7_fill_53178 (w : Nat) (f : Rw) (v : Int32) : Rw :=
  lp_fillA w v (w + 1) 0 f
set_option maxHeartbeats 4000000 in
set_option maxRecDepth 100000 in
theorem c_J7_fill_53178 (l : Launch) (G : GG) (a : Nat) (w : Nat) (f : Rw) (v : Int32) (hw : w < 2 ^ 31) : Met l yJ7_fill_53178 wsJ7_fill_53178 ({ frames := 0, cells := 0, slots := 0, locals := 0 }) (PcH G [.ref a, .int v] (Arr G 0 a w f)) (QM none (Arr G 0 a w (h_J7_fill_53178 w f v)) (one a)) 0 0 (one a) := by
  refine metH (cc := cJ7_fill_53178) (maxL := 4) (ret := none) (by decide) rfl ?_
  intro p e s m below meth cd hx hb hr hml hown hts hlocks hP hO
  have hA : ∀ q, (one a) q → (one a) q := fun _ h => h
  have hS : va_S (one a) s.heap s.heap [] := va_S.rf
  have hl := lv_entry ([.ref a, .int v]) (n := 4) (Nat.le_of_ble_eq_true rfl)
  rw [lg_entry_eq]
  generalize (lg_sl ([.ref a, .int v]) ++ List.replicate (4 - (lg_sl ([.ref a, .int v])).length) Slot.unset).toArray = ls at hl ⊢
  have hl : lv_has ls 4 [(0, .ref a), (1, .int v)] := hl
  have loop5 : ∀ (n : Nat) (k : Nat) (f2 : Rw), k ≤ w → k + n = w + 1 → h_J7_fill_53178 w f v = lp_fillA w v n k f2 → ∀ (H : Heap) (locs : List Loc) (ls : Array Slot), Arr G 0 a w f2 H → va_S (one a) s.heap H locs → lv_has ls 4 [(0, .ref a), (1, .int v), (2, .int (nI k)), (3, .int (nI w))] → W p l e (headSpec wsJ7_fill_53178 ({ frames := 0, cells := 0, slots := 0, locals := 0 } : Room)).room s m ([.ref a, .int v] : List Value).toArray below meth cd H locs 0 0 (MQ below (QM none (Arr G 0 a w (h_J7_fill_53178 w f v)) (one a)) ([.ref a, .int v] : List Value).toArray s 0 0 (one a)) (F0 m 5 ls []) := by
    intro n
    induction n with
    | zero =>
      intro k f2 hk hn hR H locs ls hP hS hl
      exact absurd hn (by omega)
    | succ n ih =>
      intro k f2 hk hn hR H locs ls hP hS hl
      refine lv_iload_n hx hb dJ7_fill_53178_5 rfl (lv_at hl 2 rfl) ?_
      refine lv_iload_n hx hb dJ7_fill_53178_6 rfl (lv_at hl 3 rfl) ?_
      refine lv_icmp_ge (tgt := 20) hx hb dJ7_fill_53178_7 (by decide) (fun c_1 => ?_) (fun c_1 => ?_)
      · have hE : h_J7_fill_53178 w f v = f2 := (hR.trans (by rw [lp_fillA, if_pos c_1]))
        exact W.vret hx hb hr (fun t ht hW => ⟨rfl, by rw [ht, hE]; exact hP, hS.F ht⟩) hS.2.2 dJ7_fill_53178_20
      · have hlt : k < w := kN (B := w) c_1 (by omega) (by omega)
        refine lv_aload_n hx hb dJ7_fill_53178_10 rfl (lv_at hl 0 rfl) ?_
        refine lv_iload_n hx hb dJ7_fill_53178_11 rfl (lv_at hl 2 rfl) ?_
        refine lv_iload_n hx hb dJ7_fill_53178_12 rfl (lv_at hl 1 rfl) ?_
        refine iast_n hx hb hO.1 hP (Arr_D (hA _ rfl)) hS 0 0 rfl rfl (by omega) (by omega) dJ7_fill_53178_13 (fun H locs hP hD hS => ?_)
        have hP : Arr G 0 a w (upd f2 k v) H := id hP
        refine lv_iinc (v := nI (k + 1)) (lv' := [(2, .int (nI (k + 1))), (0, .ref a), (1, .int v), (3, .int (nI w))]) hx hb dJ7_fill_53178_14 hl (k := 2) rfl (nI_1 _) (by decide) rfl (fun ls hl => ?_)
        refine lv_goto (tgt := 5) hx hb dJ7_fill_53178_17 (by decide) ?_
        have hE_2 : h_J7_fill_53178 w f v = lp_fillA w v n (k + 1) (upd f2 k v) := (hR.trans (by rw [lp_fillA, if_neg c_1]))
        exact ih (k + 1) (upd f2 k v) (by omega) (by omega) hE_2 _ _ _ hP hS (lv_sub hl [1, 2, 0, 3] rfl)
  refine lv_iconst (v := 0) hx hb dJ7_fill_53178_0 (by decide) ?_
  refine lv_istore_n (lv' := [(2, .int 0), (0, .ref a), (1, .int v)]) hx hb dJ7_fill_53178_1 rfl hl (by decide) rfl (fun ls hl => ?_)
  refine lv_aload_n hx hb dJ7_fill_53178_2 rfl (lv_at hl 1 rfl) ?_
  refine va_alen (ty := .int) (v := nI w) hx hb hO.1 hP 0 0 rfl rfl rfl dJ7_fill_53178_3 ?_
  refine lv_istore_n (lv' := [(3, .int (nI w)), (2, .int 0), (0, .ref a), (1, .int v)]) hx hb dJ7_fill_53178_4 rfl hl (by decide) rfl (fun ls hl => ?_)
  have hE_3 : h_J7_fill_53178 w f v = lp_fillA w v (w + 1) 0 f := (by rw [h_J7_fill_53178])
  exact loop5 (w + 1) 0 f (Nat.zero_le _) (by omega) hE_3 _ _ _ hP hS (lv_sub hl [2, 3, 1, 0] rfl)

def h_X6_copyRow (n : Nat) (f g : Rw) : Rw :=
  if (nI n) = (nI n) then (cpy n f g) else
  g
set_option maxHeartbeats 4000000 in
set_option maxRecDepth 100000 in
theorem c_X6_copyRow (l : Launch) (G : GG) (b a n : Nat) (f g : Rw) (hn : n < 2 ^ 31) (hd : b ≠ a) : Met l yX6_copyRow wsX6_copyRow ({ frames := 1, cells := 0, slots := 0, locals := 18 }) (PcH G [.ref b, .ref a] (Two G b a n f g)) (QM none (Two G b a n f (h_X6_copyRow n f g)) (two b a)) 0 0 (two b a) := by
  refine metH (cc := cX6_copyRow) (maxL := 2) (ret := none) (by decide) rfl ?_
  intro p e s m below meth cd hx hb hr hml hown hts hlocks hP hO
  have hA : ∀ q, (two b a) q → (two b a) q := fun _ h => h
  have hS : va_S (two b a) s.heap s.heap [] := va_S.rf
  have hl := lv_entry ([.ref b, .ref a]) (n := 2) (Nat.le_of_ble_eq_true rfl)
  rw [lg_entry_eq]
  generalize (lg_sl ([.ref b, .ref a]) ++ List.replicate (2 - (lg_sl ([.ref b, .ref a])).length) Slot.unset).toArray = ls at hl ⊢
  have hl : lv_has ls 2 [(0, .ref b), (1, .ref a)] := hl
  refine lv_aload_n hx hb dX6_copyRow_0 rfl (lv_at hl 0 rfl) ?_
  refine lv_ifnull hx hb dX6_copyRow_1 ?_
  refine lv_aload_n hx hb dX6_copyRow_4 rfl (lv_at hl 1 rfl) ?_
  refine lv_ifnull hx hb dX6_copyRow_5 ?_
  refine lv_aload_n hx hb dX6_copyRow_8 rfl (lv_at hl 0 rfl) ?_
  refine va_alen (ty := .int) (v := nI n) hx hb hO.1 hP 0 0 rfl rfl rfl dX6_copyRow_9 ?_
  refine lv_aload_n hx hb dX6_copyRow_10 rfl (lv_at hl 1 rfl) ?_
  refine va_alen (ty := .int) (v := nI n) hx hb hO.1 hP 1 0 rfl rfl rfl dX6_copyRow_11 ?_
  refine lv_icmp_eq (tgt := 16) hx hb dX6_copyRow_12 (by decide) (fun c_1 => ?_) (fun c_1 => ?_)
  · refine lv_aload_n hx hb dX6_copyRow_16 rfl (lv_at hl 0 rfl) ?_
    refine lv_iconst (v := 0) hx hb dX6_copyRow_17 (by decide) ?_
    refine lv_aload_n hx hb dX6_copyRow_18 rfl (lv_at hl 1 rfl) ?_
    refine lv_iconst (v := 0) hx hb dX6_copyRow_19 (by decide) ?_
    refine lv_aload_n hx hb dX6_copyRow_20 rfl (lv_at hl 0 rfl) ?_
    refine va_alen (ty := .int) (v := nI n) hx hb hO.1 hP 0 0 rfl rfl rfl dX6_copyRow_21 ?_
    refine va_copyi (sp := 0) (dp := 0) (n := nI n) hx hb (hml.trans hl.1.symm) hown (hts (.methodLink RX6 335 arraycopyName) (by decide +kernel)) (hts (.native arraycopyName) (by decide +kernel)) (hts (.static arraycopyName) (by decide +kernel)) (hts (.initialized "java/lang/System") (by decide +kernel)) hO.1 hP (two_D hd hA) hS 0 1 0 0 rfl rfl rfl rfl rfl (by decide) (by decide) (nI_pos hn) (by rw [nI_clamp hn]; exact Nat.le_of_eq (Nat.zero_add _)) (by rw [nI_clamp hn]; exact Nat.le_of_eq (Nat.zero_add _)) (fun _ _ => rfl) (Nat.le_of_ble_eq_true rfl) (Nat.le_of_ble_eq_true rfl) dX6_copyRow_22 (fun H locs hP hD hS => ?_)
    have hP : Two G b a n f (cpy n f g) H := two_p hP
    have hE : h_X6_copyRow n f g = (cpy n f g) := (by rw [h_X6_copyRow, if_pos c_1])
    exact W.vret hx hb hr (fun t ht hW => ⟨rfl, by rw [ht, hE]; exact hP, hS.F ht⟩) hS.2.2 dX6_copyRow_25
  · have hE : h_X6_copyRow n f g = g := (by rw [h_X6_copyRow, if_neg c_1])
    exact W.vret hx hb hr (fun t ht hW => ⟨rfl, by rw [ht, hE]; exact hP, hS.F ht⟩) hS.2.2 dX6_copyRow_15

def cC (S T : St) : St := wC S (h_X6_copyRow 80 (sC T) (sC S))
def cG (S T : St) : St := wG S (h_X6_copyRow 80 (sG T) (sG S))
def cL (S T : St) : St := wL S (h_X6_copyRow 40 (sL T) (sL S))
def cY (S T : St) : St := wY S (h_X6_copyRow 40 (sY T) (sY S))
def cT (S T : St) : St := wT S (h_X6_copyRow 40 (sT T) (sT S))
def cP (S T : St) : St := wP S (h_X6_copyRow 40 (sP T) (sP S))
def cK (S T : St) : St := wK S (h_X6_copyRow 40 (sK T) (sK S))
def cR (S T : St) : St := wR S (h_X6_copyRow 40 (sR T) (sR S))
def h_X4_copyFrom (S T : St) : St :=
  (wE (wO (wU (wH (wM (wN (cR (cK (cP (cT (cY (cL (cG (cC S T) T) T) T) T) T) T) T) (sN T)) (sM T)) (sH T)) (sU T)) (sO T)) (sE T))
set_option maxHeartbeats 4000000 in
set_option maxRecDepth 100000 in
theorem c_X4_copyFrom (l : Launch) (G : GG) (a b : Nat) (S T : St) (hd : a + 9 ≤ b ∨ b + 9 ≤ a) : Met l yX4_copyFrom wsX4_copyFrom ({ frames := 2, cells := 0, slots := 0, locals := 39 }) (PcH G [.ref a, .ref b] (Str2 G a b S T)) (QM none (Str2 G a b (h_X4_copyFrom S T) T) (blk2 a b)) 0 0 (blk2 a b) := by
  refine metH (cc := cX4_copyFrom) (maxL := 2) (ret := none) (by decide) rfl ?_
  intro p e s m below meth cd hx hb hr hml hown hts hlocks hP hO
  have hin4 : ∀ w ∈ u_ws RX4 TX4 14, w ∈ wsX4_copyFrom := by decide +kernel
  have hf_9 := hts (.fieldLink RX4 9 "CurbCars$Street" "cells" "[I") (by decide +kernel)
  have hf_15 := hts (.fieldLink RX4 15 "CurbCars$Street" "gapSizes" "[I") (by decide +kernel)
  have hf_18 := hts (.fieldLink RX4 18 "CurbCars$Street" "lengths" "[I") (by decide +kernel)
  have hf_21 := hts (.fieldLink RX4 21 "CurbCars$Street" "stays" "[I") (by decide +kernel)
  have hf_24 := hts (.fieldLink RX4 24 "CurbCars$Street" "states" "[I") (by decide +kernel)
  have hf_27 := hts (.fieldLink RX4 27 "CurbCars$Street" "places" "[I") (by decide +kernel)
  have hf_30 := hts (.fieldLink RX4 30 "CurbCars$Street" "parkedMinutes" "[I") (by decide +kernel)
  have hf_33 := hts (.fieldLink RX4 33 "CurbCars$Street" "roundMinutes" "[I") (by decide +kernel)
  have hf_48 := hts (.fieldLink RX4 48 "CurbCars$Street" "came" "I") (by decide +kernel)
  have hf_52 := hts (.fieldLink RX4 52 "CurbCars$Street" "clock" "I") (by decide +kernel)
  have hf_55 := hts (.fieldLink RX4 55 "CurbCars$Street" "chance" "J") (by decide +kernel)
  have hf_59 := hts (.fieldLink RX4 59 "CurbCars$Street" "rule" "I") (by decide +kernel)
  have hf_62 := hts (.fieldLink RX4 62 "CurbCars$Street" "room" "I") (by decide +kernel)
  have hf_65 := hts (.fieldLink RX4 65 "CurbCars$Street" "patience" "I") (by decide +kernel)
  have hA : ∀ q, (blk2 a b) q → (blk2 a b) q := fun _ h => h
  have hS : va_S (blk2 a b) s.heap s.heap [] := va_S.rf
  have hl := lv_entry ([.ref a, .ref b]) (n := 2) (Nat.le_of_ble_eq_true rfl)
  rw [lg_entry_eq]
  generalize (lg_sl ([.ref a, .ref b]) ++ List.replicate (2 - (lg_sl ([.ref a, .ref b])).length) Slot.unset).toArray = ls at hl ⊢
  have hl : lv_has ls 2 [(0, .ref a), (1, .ref b)] := hl
  refine lv_aload_n hx hb dX4_copyFrom_0 rfl (lv_at hl 1 rfl) ?_
  refine lv_ifnonnull (tgt := 5) hx hb dX4_copyFrom_1 (by decide) ?_
  refine lv_aload_n hx hb dX4_copyFrom_5 rfl (lv_at hl 1 rfl) ?_
  refine va_get (D := G.1) (ci := 2) (v := .ref (b + 1)) (C := RX4) (T := TX4) (N := 14) hx hb hts hin4 hown hO.1 hP 9 rfl rfl 0 (by decide) hf_9 (fun _ h9 => h9) rfl dX4_copyFrom_6 ?_
  refine lv_aload_n hx hb dX4_copyFrom_9 rfl (lv_at hl 0 rfl) ?_
  refine va_get (D := G.1) (ci := 2) (v := .ref (a + 1)) (C := RX4) (T := TX4) (N := 14) hx hb hts hin4 hown hO.1 hP 0 rfl rfl 0 (by decide) hf_9 (fun _ h9 => h9) rfl dX4_copyFrom_10 ?_
  refine cl_mv (rSN (As := [.ref (b + 1), .ref (a + 1)]) (rest := []) ⟨hx, hb, hml, hown, hts⟩ (c_X6_copyRow l G (b + 1) (a + 1) 80 (sC T) (sC S) (by decide) (by omega)) ⟨va_cnB 2 hts gX4_copyFrom_X6_copyRow_n68 rfl rfl rfl (hO.2 _ (List.mem_of_getElem? (i := 56) rfl)) (hts (.initialized RX6) (by decide +kernel)) (by decide +kernel) ⟨Nat.le_of_ble_eq_true rfl, Nat.le_of_ble_eq_true rfl⟩, hts (.static yX6_copyRow) (by decide +kernel), trivial⟩ (va_P.sub hP [10, 1] rfl) hO rfl hl.1 (Nat.le_of_ble_eq_true rfl) dX4_copyFrom_13 ⟨Nat.le_of_ble_eq_true rfl, Nat.le_of_ble_eq_true rfl⟩) hS (fun q h => hA q (by simp only [two, blk2, blk] at *; omega)) (fun H locs hP1 hz hk hS => ?_)
  have hP : Str2 G a b (cC S T) T H := st2_pC (two_row 10 1 hP (st2_D hd hA) rfl rfl hP1 hk)
  refine lv_aload_n hx hb dX4_copyFrom_16 rfl (lv_at hl 1 rfl) ?_
  refine va_get (D := G.1) (ci := 2) (v := .ref (b + 2)) (C := RX4) (T := TX4) (N := 14) hx hb hts hin4 hown hO.1 hP 9 rfl rfl 1 (by decide) hf_15 (fun _ h9 => h9) rfl dX4_copyFrom_17 ?_
  refine lv_aload_n hx hb dX4_copyFrom_20 rfl (lv_at hl 0 rfl) ?_
  refine va_get (D := G.1) (ci := 2) (v := .ref (a + 2)) (C := RX4) (T := TX4) (N := 14) hx hb hts hin4 hown hO.1 hP 0 rfl rfl 1 (by decide) hf_15 (fun _ h9 => h9) rfl dX4_copyFrom_21 ?_
  refine cl_mv (rSN (As := [.ref (b + 2), .ref (a + 2)]) (rest := []) ⟨hx, hb, hml, hown, hts⟩ (c_X6_copyRow l G (b + 2) (a + 2) 80 (sG T) (sG (cC S T)) (by decide) (by omega)) ⟨va_cnB 2 hts gX4_copyFrom_X6_copyRow_n68 rfl rfl rfl (hO.2 _ (List.mem_of_getElem? (i := 56) rfl)) (hts (.initialized RX6) (by decide +kernel)) (by decide +kernel) ⟨Nat.le_of_ble_eq_true rfl, Nat.le_of_ble_eq_true rfl⟩, hts (.static yX6_copyRow) (by decide +kernel), trivial⟩ (va_P.sub hP [11, 2] rfl) hO rfl hl.1 (Nat.le_of_ble_eq_true rfl) dX4_copyFrom_24 ⟨Nat.le_of_ble_eq_true rfl, Nat.le_of_ble_eq_true rfl⟩) hS (fun q h => hA q (by simp only [two, blk2, blk] at *; omega)) (fun H locs hP1 hz hk hS => ?_)
  have hP : Str2 G a b (cG (cC S T) T) T H := st2_pG (two_row 11 2 hP (st2_D hd hA) rfl rfl hP1 hk)
  refine lv_aload_n hx hb dX4_copyFrom_27 rfl (lv_at hl 1 rfl) ?_
  refine va_get (D := G.1) (ci := 2) (v := .ref (b + 3)) (C := RX4) (T := TX4) (N := 14) hx hb hts hin4 hown hO.1 hP 9 rfl rfl 2 (by decide) hf_18 (fun _ h9 => h9) rfl dX4_copyFrom_28 ?_
  refine lv_aload_n hx hb dX4_copyFrom_31 rfl (lv_at hl 0 rfl) ?_
  refine va_get (D := G.1) (ci := 2) (v := .ref (a + 3)) (C := RX4) (T := TX4) (N := 14) hx hb hts hin4 hown hO.1 hP 0 rfl rfl 2 (by decide) hf_18 (fun _ h9 => h9) rfl dX4_copyFrom_32 ?_
  refine cl_mv (rSN (As := [.ref (b + 3), .ref (a + 3)]) (rest := []) ⟨hx, hb, hml, hown, hts⟩ (c_X6_copyRow l G (b + 3) (a + 3) 40 (sL T) (sL (cG (cC S T) T)) (by decide) (by omega)) ⟨va_cnB 2 hts gX4_copyFrom_X6_copyRow_n68 rfl rfl rfl (hO.2 _ (List.mem_of_getElem? (i := 56) rfl)) (hts (.initialized RX6) (by decide +kernel)) (by decide +kernel) ⟨Nat.le_of_ble_eq_true rfl, Nat.le_of_ble_eq_true rfl⟩, hts (.static yX6_copyRow) (by decide +kernel), trivial⟩ (va_P.sub hP [12, 3] rfl) hO rfl hl.1 (Nat.le_of_ble_eq_true rfl) dX4_copyFrom_35 ⟨Nat.le_of_ble_eq_true rfl, Nat.le_of_ble_eq_true rfl⟩) hS (fun q h => hA q (by simp only [two, blk2, blk] at *; omega)) (fun H locs hP1 hz hk hS => ?_)
  have hP : Str2 G a b (cL (cG (cC S T) T) T) T H := st2_pL (two_row 12 3 hP (st2_D hd hA) rfl rfl hP1 hk)
  refine lv_aload_n hx hb dX4_copyFrom_38 rfl (lv_at hl 1 rfl) ?_
  refine va_get (D := G.1) (ci := 2) (v := .ref (b + 4)) (C := RX4) (T := TX4) (N := 14) hx hb hts hin4 hown hO.1 hP 9 rfl rfl 3 (by decide) hf_21 (fun _ h9 => h9) rfl dX4_copyFrom_39 ?_
  refine lv_aload_n hx hb dX4_copyFrom_42 rfl (lv_at hl 0 rfl) ?_
  refine va_get (D := G.1) (ci := 2) (v := .ref (a + 4)) (C := RX4) (T := TX4) (N := 14) hx hb hts hin4 hown hO.1 hP 0 rfl rfl 3 (by decide) hf_21 (fun _ h9 => h9) rfl dX4_copyFrom_43 ?_
  refine cl_mv (rSN (As := [.ref (b + 4), .ref (a + 4)]) (rest := []) ⟨hx, hb, hml, hown, hts⟩ (c_X6_copyRow l G (b + 4) (a + 4) 40 (sY T) (sY (cL (cG (cC S T) T) T)) (by decide) (by omega)) ⟨va_cnB 2 hts gX4_copyFrom_X6_copyRow_n68 rfl rfl rfl (hO.2 _ (List.mem_of_getElem? (i := 56) rfl)) (hts (.initialized RX6) (by decide +kernel)) (by decide +kernel) ⟨Nat.le_of_ble_eq_true rfl, Nat.le_of_ble_eq_true rfl⟩, hts (.static yX6_copyRow) (by decide +kernel), trivial⟩ (va_P.sub hP [13, 4] rfl) hO rfl hl.1 (Nat.le_of_ble_eq_true rfl) dX4_copyFrom_46 ⟨Nat.le_of_ble_eq_true rfl, Nat.le_of_ble_eq_true rfl⟩) hS (fun q h => hA q (by simp only [two, blk2, blk] at *; omega)) (fun H locs hP1 hz hk hS => ?_)
  have hP : Str2 G a b (cY (cL (cG (cC S T) T) T) T) T H := st2_pY (two_row 13 4 hP (st2_D hd hA) rfl rfl hP1 hk)
  refine lv_aload_n hx hb dX4_copyFrom_49 rfl (lv_at hl 1 rfl) ?_
  refine va_get (D := G.1) (ci := 2) (v := .ref (b + 5)) (C := RX4) (T := TX4) (N := 14) hx hb hts hin4 hown hO.1 hP 9 rfl rfl 4 (by decide) hf_24 (fun _ h9 => h9) rfl dX4_copyFrom_50 ?_
  refine lv_aload_n hx hb dX4_copyFrom_53 rfl (lv_at hl 0 rfl) ?_
  refine va_get (D := G.1) (ci := 2) (v := .ref (a + 5)) (C := RX4) (T := TX4) (N := 14) hx hb hts hin4 hown hO.1 hP 0 rfl rfl 4 (by decide) hf_24 (fun _ h9 => h9) rfl dX4_copyFrom_54 ?_
  refine cl_mv (rSN (As := [.ref (b + 5), .ref (a + 5)]) (rest := []) ⟨hx, hb, hml, hown, hts⟩ (c_X6_copyRow l G (b + 5) (a + 5) 40 (sT T) (sT (cY (cL (cG (cC S T) T) T) T)) (by decide) (by omega)) ⟨va_cnB 2 hts gX4_copyFrom_X6_copyRow_n68 rfl rfl rfl (hO.2 _ (List.mem_of_getElem? (i := 56) rfl)) (hts (.initialized RX6) (by decide +kernel)) (by decide +kernel) ⟨Nat.le_of_ble_eq_true rfl, Nat.le_of_ble_eq_true rfl⟩, hts (.static yX6_copyRow) (by decide +kernel), trivial⟩ (va_P.sub hP [14, 5] rfl) hO rfl hl.1 (Nat.le_of_ble_eq_true rfl) dX4_copyFrom_57 ⟨Nat.le_of_ble_eq_true rfl, Nat.le_of_ble_eq_true rfl⟩) hS (fun q h => hA q (by simp only [two, blk2, blk] at *; omega)) (fun H locs hP1 hz hk hS => ?_)
  have hP : Str2 G a b (cT (cY (cL (cG (cC S T) T) T) T) T) T H := st2_pT (two_row 14 5 hP (st2_D hd hA) rfl rfl hP1 hk)
  refine lv_aload_n hx hb dX4_copyFrom_60 rfl (lv_at hl 1 rfl) ?_
  refine va_get (D := G.1) (ci := 2) (v := .ref (b + 6)) (C := RX4) (T := TX4) (N := 14) hx hb hts hin4 hown hO.1 hP 9 rfl rfl 5 (by decide) hf_27 (fun _ h9 => h9) rfl dX4_copyFrom_61 ?_
  refine lv_aload_n hx hb dX4_copyFrom_64 rfl (lv_at hl 0 rfl) ?_
  refine va_get (D := G.1) (ci := 2) (v := .ref (a + 6)) (C := RX4) (T := TX4) (N := 14) hx hb hts hin4 hown hO.1 hP 0 rfl rfl 5 (by decide) hf_27 (fun _ h9 => h9) rfl dX4_copyFrom_65 ?_
  refine cl_mv (rSN (As := [.ref (b + 6), .ref (a + 6)]) (rest := []) ⟨hx, hb, hml, hown, hts⟩ (c_X6_copyRow l G (b + 6) (a + 6) 40 (sP T) (sP (cT (cY (cL (cG (cC S T) T) T) T) T)) (by decide) (by omega)) ⟨va_cnB 2 hts gX4_copyFrom_X6_copyRow_n68 rfl rfl rfl (hO.2 _ (List.mem_of_getElem? (i := 56) rfl)) (hts (.initialized RX6) (by decide +kernel)) (by decide +kernel) ⟨Nat.le_of_ble_eq_true rfl, Nat.le_of_ble_eq_true rfl⟩, hts (.static yX6_copyRow) (by decide +kernel), trivial⟩ (va_P.sub hP [15, 6] rfl) hO rfl hl.1 (Nat.le_of_ble_eq_true rfl) dX4_copyFrom_68 ⟨Nat.le_of_ble_eq_true rfl, Nat.le_of_ble_eq_true rfl⟩) hS (fun q h => hA q (by simp only [two, blk2, blk] at *; omega)) (fun H locs hP1 hz hk hS => ?_)
  have hP : Str2 G a b (cP (cT (cY (cL (cG (cC S T) T) T) T) T) T) T H := st2_pP (two_row 15 6 hP (st2_D hd hA) rfl rfl hP1 hk)
  refine lv_aload_n hx hb dX4_copyFrom_71 rfl (lv_at hl 1 rfl) ?_
  refine va_get (D := G.1) (ci := 2) (v := .ref (b + 7)) (C := RX4) (T := TX4) (N := 14) hx hb hts hin4 hown hO.1 hP 9 rfl rfl 6 (by decide) hf_30 (fun _ h9 => h9) rfl dX4_copyFrom_72 ?_
  refine lv_aload_n hx hb dX4_copyFrom_75 rfl (lv_at hl 0 rfl) ?_
  refine va_get (D := G.1) (ci := 2) (v := .ref (a + 7)) (C := RX4) (T := TX4) (N := 14) hx hb hts hin4 hown hO.1 hP 0 rfl rfl 6 (by decide) hf_30 (fun _ h9 => h9) rfl dX4_copyFrom_76 ?_
  refine cl_mv (rSN (As := [.ref (b + 7), .ref (a + 7)]) (rest := []) ⟨hx, hb, hml, hown, hts⟩ (c_X6_copyRow l G (b + 7) (a + 7) 40 (sK T) (sK (cP (cT (cY (cL (cG (cC S T) T) T) T) T) T)) (by decide) (by omega)) ⟨va_cnB 2 hts gX4_copyFrom_X6_copyRow_n68 rfl rfl rfl (hO.2 _ (List.mem_of_getElem? (i := 56) rfl)) (hts (.initialized RX6) (by decide +kernel)) (by decide +kernel) ⟨Nat.le_of_ble_eq_true rfl, Nat.le_of_ble_eq_true rfl⟩, hts (.static yX6_copyRow) (by decide +kernel), trivial⟩ (va_P.sub hP [16, 7] rfl) hO rfl hl.1 (Nat.le_of_ble_eq_true rfl) dX4_copyFrom_79 ⟨Nat.le_of_ble_eq_true rfl, Nat.le_of_ble_eq_true rfl⟩) hS (fun q h => hA q (by simp only [two, blk2, blk] at *; omega)) (fun H locs hP1 hz hk hS => ?_)
  have hP : Str2 G a b (cK (cP (cT (cY (cL (cG (cC S T) T) T) T) T) T) T) T H := st2_pK (two_row 16 7 hP (st2_D hd hA) rfl rfl hP1 hk)
  refine lv_aload_n hx hb dX4_copyFrom_82 rfl (lv_at hl 1 rfl) ?_
  refine va_get (D := G.1) (ci := 2) (v := .ref (b + 8)) (C := RX4) (T := TX4) (N := 14) hx hb hts hin4 hown hO.1 hP 9 rfl rfl 7 (by decide) hf_33 (fun _ h9 => h9) rfl dX4_copyFrom_83 ?_
  refine lv_aload_n hx hb dX4_copyFrom_86 rfl (lv_at hl 0 rfl) ?_
  refine va_get (D := G.1) (ci := 2) (v := .ref (a + 8)) (C := RX4) (T := TX4) (N := 14) hx hb hts hin4 hown hO.1 hP 0 rfl rfl 7 (by decide) hf_33 (fun _ h9 => h9) rfl dX4_copyFrom_87 ?_
  refine cl_mv (rSN (As := [.ref (b + 8), .ref (a + 8)]) (rest := []) ⟨hx, hb, hml, hown, hts⟩ (c_X6_copyRow l G (b + 8) (a + 8) 40 (sR T) (sR (cK (cP (cT (cY (cL (cG (cC S T) T) T) T) T) T) T)) (by decide) (by omega)) ⟨va_cnB 2 hts gX4_copyFrom_X6_copyRow_n68 rfl rfl rfl (hO.2 _ (List.mem_of_getElem? (i := 56) rfl)) (hts (.initialized RX6) (by decide +kernel)) (by decide +kernel) ⟨Nat.le_of_ble_eq_true rfl, Nat.le_of_ble_eq_true rfl⟩, hts (.static yX6_copyRow) (by decide +kernel), trivial⟩ (va_P.sub hP [17, 8] rfl) hO rfl hl.1 (Nat.le_of_ble_eq_true rfl) dX4_copyFrom_90 ⟨Nat.le_of_ble_eq_true rfl, Nat.le_of_ble_eq_true rfl⟩) hS (fun q h => hA q (by simp only [two, blk2, blk] at *; omega)) (fun H locs hP1 hz hk hS => ?_)
  have hP : Str2 G a b (cR (cK (cP (cT (cY (cL (cG (cC S T) T) T) T) T) T) T) T) T H := st2_pR (two_row 17 8 hP (st2_D hd hA) rfl rfl hP1 hk)
  refine lv_aload_n hx hb dX4_copyFrom_93 rfl (lv_at hl 0 rfl) ?_
  refine lv_aload_n hx hb dX4_copyFrom_94 rfl (lv_at hl 1 rfl) ?_
  refine va_get (D := G.1) (ci := 2) (v := .int (sN T)) (C := RX4) (T := TX4) (N := 14) hx hb hts hin4 hown hO.1 hP 9 rfl rfl 8 (by decide) hf_48 (fun _ h9 => h9) rfl dX4_copyFrom_95 ?_
  refine va_put (D := G.1) (ci := 2) (v := .int (sN T)) (ty := .int) (C := RX4) (T := TX4) (N := 14) hx hb hts hin4 tyX4 tyX4_ok nmX4 hown hO.1 hP (st2_D hd hA) hS 0 rfl rfl 8 (by decide) hf_48 (fun _ h9 => h9) rfl (by decide +kernel) rfl rfl (Nat.le_of_ble_eq_true rfl) dX4_copyFrom_98 (fun H locs hP hD hS => ?_)
  have hP : Str2 G a b (wN (cR (cK (cP (cT (cY (cL (cG (cC S T) T) T) T) T) T) T) T) (sN T)) T H := st2_pN hP
  refine lv_aload_n hx hb dX4_copyFrom_101 rfl (lv_at hl 0 rfl) ?_
  refine lv_aload_n hx hb dX4_copyFrom_102 rfl (lv_at hl 1 rfl) ?_
  refine va_get (D := G.1) (ci := 2) (v := .int (sM T)) (C := RX4) (T := TX4) (N := 14) hx hb hts hin4 hown hO.1 hP 9 rfl rfl 9 (by decide) hf_52 (fun _ h9 => h9) rfl dX4_copyFrom_103 ?_
  refine va_put (D := G.1) (ci := 2) (v := .int (sM T)) (ty := .int) (C := RX4) (T := TX4) (N := 14) hx hb hts hin4 tyX4 tyX4_ok nmX4 hown hO.1 hP (st2_D hd hA) hS 0 rfl rfl 9 (by decide) hf_52 (fun _ h9 => h9) rfl (by decide +kernel) rfl rfl (Nat.le_of_ble_eq_true rfl) dX4_copyFrom_106 (fun H locs hP hD hS => ?_)
  have hP : Str2 G a b (wM (wN (cR (cK (cP (cT (cY (cL (cG (cC S T) T) T) T) T) T) T) T) (sN T)) (sM T)) T H := st2_pM hP
  refine lv_aload_n hx hb dX4_copyFrom_109 rfl (lv_at hl 0 rfl) ?_
  refine lv_aload_n hx hb dX4_copyFrom_110 rfl (lv_at hl 1 rfl) ?_
  refine va_get (D := G.1) (ci := 2) (v := .long (sH T)) (C := RX4) (T := TX4) (N := 14) hx hb hts hin4 hown hO.1 hP 9 rfl rfl 10 (by decide) hf_55 (fun _ h9 => h9) rfl dX4_copyFrom_111 ?_
  refine va_put (D := G.1) (ci := 2) (v := .long (sH T)) (ty := .long) (C := RX4) (T := TX4) (N := 14) hx hb hts hin4 tyX4 tyX4_ok nmX4 hown hO.1 hP (st2_D hd hA) hS 0 rfl rfl 10 (by decide) hf_55 (fun _ h9 => h9) rfl (by decide +kernel) rfl rfl (Nat.le_of_ble_eq_true rfl) dX4_copyFrom_114 (fun H locs hP hD hS => ?_)
  have hP : Str2 G a b (wH (wM (wN (cR (cK (cP (cT (cY (cL (cG (cC S T) T) T) T) T) T) T) T) (sN T)) (sM T)) (sH T)) T H := st2_pH hP
  refine lv_aload_n hx hb dX4_copyFrom_117 rfl (lv_at hl 0 rfl) ?_
  refine lv_aload_n hx hb dX4_copyFrom_118 rfl (lv_at hl 1 rfl) ?_
  refine va_get (D := G.1) (ci := 2) (v := .int (sU T)) (C := RX4) (T := TX4) (N := 14) hx hb hts hin4 hown hO.1 hP 9 rfl rfl 11 (by decide) hf_59 (fun _ h9 => h9) rfl dX4_copyFrom_119 ?_
  refine va_put (D := G.1) (ci := 2) (v := .int (sU T)) (ty := .int) (C := RX4) (T := TX4) (N := 14) hx hb hts hin4 tyX4 tyX4_ok nmX4 hown hO.1 hP (st2_D hd hA) hS 0 rfl rfl 11 (by decide) hf_59 (fun _ h9 => h9) rfl (by decide +kernel) rfl rfl (Nat.le_of_ble_eq_true rfl) dX4_copyFrom_122 (fun H locs hP hD hS => ?_)
  have hP : Str2 G a b (wU (wH (wM (wN (cR (cK (cP (cT (cY (cL (cG (cC S T) T) T) T) T) T) T) T) (sN T)) (sM T)) (sH T)) (sU T)) T H := st2_pU hP
  refine lv_aload_n hx hb dX4_copyFrom_125 rfl (lv_at hl 0 rfl) ?_
  refine lv_aload_n hx hb dX4_copyFrom_126 rfl (lv_at hl 1 rfl) ?_
  refine va_get (D := G.1) (ci := 2) (v := .int (sO T)) (C := RX4) (T := TX4) (N := 14) hx hb hts hin4 hown hO.1 hP 9 rfl rfl 12 (by decide) hf_62 (fun _ h9 => h9) rfl dX4_copyFrom_127 ?_
  refine va_put (D := G.1) (ci := 2) (v := .int (sO T)) (ty := .int) (C := RX4) (T := TX4) (N := 14) hx hb hts hin4 tyX4 tyX4_ok nmX4 hown hO.1 hP (st2_D hd hA) hS 0 rfl rfl 12 (by decide) hf_62 (fun _ h9 => h9) rfl (by decide +kernel) rfl rfl (Nat.le_of_ble_eq_true rfl) dX4_copyFrom_130 (fun H locs hP hD hS => ?_)
  have hP : Str2 G a b (wO (wU (wH (wM (wN (cR (cK (cP (cT (cY (cL (cG (cC S T) T) T) T) T) T) T) T) (sN T)) (sM T)) (sH T)) (sU T)) (sO T)) T H := st2_pO hP
  refine lv_aload_n hx hb dX4_copyFrom_133 rfl (lv_at hl 0 rfl) ?_
  refine lv_aload_n hx hb dX4_copyFrom_134 rfl (lv_at hl 1 rfl) ?_
  refine va_get (D := G.1) (ci := 2) (v := .int (sE T)) (C := RX4) (T := TX4) (N := 14) hx hb hts hin4 hown hO.1 hP 9 rfl rfl 13 (by decide) hf_65 (fun _ h9 => h9) rfl dX4_copyFrom_135 ?_
  refine va_put (D := G.1) (ci := 2) (v := .int (sE T)) (ty := .int) (C := RX4) (T := TX4) (N := 14) hx hb hts hin4 tyX4 tyX4_ok nmX4 hown hO.1 hP (st2_D hd hA) hS 0 rfl rfl 13 (by decide) hf_65 (fun _ h9 => h9) rfl (by decide +kernel) rfl rfl (Nat.le_of_ble_eq_true rfl) dX4_copyFrom_138 (fun H locs hP hD hS => ?_)
  have hP : Str2 G a b (wE (wO (wU (wH (wM (wN (cR (cK (cP (cT (cY (cL (cG (cC S T) T) T) T) T) T) T) T) (sN T)) (sM T)) (sH T)) (sU T)) (sO T)) (sE T)) T H := st2_pE hP
  have hE : h_X4_copyFrom S T = (wE (wO (wU (wH (wM (wN (cR (cK (cP (cT (cY (cL (cG (cC S T) T) T) T) T) T) T) T) (sN T)) (sM T)) (sH T)) (sU T)) (sO T)) (sE T)) := (by rw [h_X4_copyFrom])
  exact W.vret hx hb hr (fun t ht hW => ⟨rfl, by rw [ht, hE]; exact hP, hS.F ht⟩) hS.2.2 dX4_copyFrom_141

theorem cp_cells {G : GG} {a b : Nat} {S T : St} {H : Heap} (h : Str2 G a b (h_X4_copyFrom S T) T H) : Str G a T H ∧ Str G b T H := by
  refine ⟨fun k q hk => ?_, fun k q hk => h (9 + k) q (by rw [List.getElem?_append_right (by rw [st_len]; omega), st_len, Nat.add_sub_cancel_left]; exact hk)⟩
  have hl : k < 9 := (List.getElem?_eq_some_iff.mp hk).1
  have e80 : ∀ (f g : Rw), vp_cell (G.2 0) (80, .inl (h_X6_copyRow 80 f g)) = vp_cell (G.2 0) (80, .inl f) := fun f g => row_cong fun j hj => by rw [h_X6_copyRow, if_pos rfl]; exact cpy_in (by decide) hj
  have e40 : ∀ (f g : Rw), vp_cell (G.2 0) (40, .inl (h_X6_copyRow 40 f g)) = vp_cell (G.2 0) (40, .inl f) := fun f g => row_cong fun j hj => by rw [h_X6_copyRow, if_pos rfl]; exact cpy_in (by decide) hj
  match k, hk, hl with
  | 0, hk, _ => cases hk; exact h 0 _ rfl
  | 1, hk, _ => cases hk; exact (h 1 _ rfl).trans (congrArg some (e80 _ _))
  | 2, hk, _ => cases hk; exact (h 2 _ rfl).trans (congrArg some (e80 _ _))
  | 3, hk, _ => cases hk; exact (h 3 _ rfl).trans (congrArg some (e40 _ _))
  | 4, hk, _ => cases hk; exact (h 4 _ rfl).trans (congrArg some (e40 _ _))
  | 5, hk, _ => cases hk; exact (h 5 _ rfl).trans (congrArg some (e40 _ _))
  | 6, hk, _ => cases hk; exact (h 6 _ rfl).trans (congrArg some (e40 _ _))
  | 7, hk, _ => cases hk; exact (h 7 _ rfl).trans (congrArg some (e40 _ _))
  | 8, hk, _ => cases hk; exact (h 8 _ rfl).trans (congrArg some (e40 _ _))

def h_X4_makeNew (S : St) : St :=
  (wE (wO (wU (wH (wM (wN (h_X4_findGaps (wC S (h_J7_fill_53178 80 (sC S) (-1)))) 0) 0) 1) 0) 1) 5)
set_option maxHeartbeats 4000000 in
set_option maxRecDepth 100000 in
theorem c_X4_makeNew (l : Launch) (G : GG) (a : Nat) (S : St) : Met l yX4_makeNew wsX4_makeNew ({ frames := 1, cells := 0, slots := 0, locals := 23 }) (PcH G [.ref a] (Str G a S)) (QM none (Str G a (h_X4_makeNew S)) (blk a (a + 9))) 0 0 (blk a (a + 9)) := by
  refine metH (cc := cX4_makeNew) (maxL := 1) (ret := none) (by decide) rfl ?_
  intro p e s m below meth cd hx hb hr hml hown hts hlocks hP hO
  have hin4 : ∀ w ∈ u_ws RX4 TX4 14, w ∈ wsX4_makeNew := by decide +kernel
  have hf_9 := hts (.fieldLink RX4 9 "CurbCars$Street" "cells" "[I") (by decide +kernel)
  have hf_48 := hts (.fieldLink RX4 48 "CurbCars$Street" "came" "I") (by decide +kernel)
  have hf_52 := hts (.fieldLink RX4 52 "CurbCars$Street" "clock" "I") (by decide +kernel)
  have hf_55 := hts (.fieldLink RX4 55 "CurbCars$Street" "chance" "J") (by decide +kernel)
  have hf_59 := hts (.fieldLink RX4 59 "CurbCars$Street" "rule" "I") (by decide +kernel)
  have hf_62 := hts (.fieldLink RX4 62 "CurbCars$Street" "room" "I") (by decide +kernel)
  have hf_65 := hts (.fieldLink RX4 65 "CurbCars$Street" "patience" "I") (by decide +kernel)
  have hA : ∀ q, (blk a (a + 9)) q → (blk a (a + 9)) q := fun _ h => h
  have hS : va_S (blk a (a + 9)) s.heap s.heap [] := va_S.rf
  have hl := lv_entry ([.ref a]) (n := 1) (Nat.le_of_ble_eq_true rfl)
  rw [lg_entry_eq]
  generalize (lg_sl ([.ref a]) ++ List.replicate (1 - (lg_sl ([.ref a])).length) Slot.unset).toArray = ls at hl ⊢
  have hl : lv_has ls 1 [(0, .ref a)] := hl
  refine lv_aload_n hx hb dX4_makeNew_0 rfl (lv_at hl 0 rfl) ?_
  refine va_get (D := G.1) (ci := 2) (v := .ref (a + 1)) (C := RX4) (T := TX4) (N := 14) hx hb hts hin4 hown hO.1 hP 0 rfl rfl 0 (by decide) hf_9 (fun _ h9 => h9) rfl dX4_makeNew_1 ?_
  refine lv_iconst (v := -1) hx hb dX4_makeNew_4 (by decide) ?_
  refine cl_mv (rS (As := [.ref (a + 1), .int (-1)]) (rest := []) ⟨hx, hb, hml, hown, hts⟩ (c_J7_fill_53178 l G (a + 1) 80 (sC S) (-1) (by decide)) (va_cwS 2 hts gX4_makeNew_J7_fill_53178 rfl rfl rfl (by decide +kernel) ⟨Nat.le_of_ble_eq_true rfl, Nat.le_of_ble_eq_true rfl⟩) (va_P.sub hP [1] rfl) hO rfl hl.1 (Nat.le_of_ble_eq_true rfl) dX4_makeNew_5 ⟨Nat.le_of_ble_eq_true rfl, Nat.le_of_ble_eq_true rfl⟩) hS (fun q h => hA q (by simp only [one, blk] at *; omega)) (fun H locs hP1 hz hk hS => ?_)
  have hP : Str G a (wC S (h_J7_fill_53178 80 (sC S) (-1))) H := st_pC (st_row 1 hP rfl hP1 hk)
  refine lv_aload_n hx hb dX4_makeNew_8 rfl (lv_at hl 0 rfl) ?_
  refine cl_mv (rV (As := []) (rest := []) ⟨hx, hb, hml, hown, hts⟩ (c_X4_findGaps l G a (wC S (h_J7_fill_53178 80 (sC S) (-1)))) (cwV 0 hts gX4_makeNew_X4_findGaps rfl rfl rfl (by decide +kernel) ⟨Nat.le_of_ble_eq_true rfl, Nat.le_of_ble_eq_true rfl⟩) (st_recv hO hP) hP hO rfl hl.1 (Nat.le_of_ble_eq_true rfl) dX4_makeNew_9 ⟨Nat.le_of_ble_eq_true rfl, Nat.le_of_ble_eq_true rfl⟩) hS hA (fun H locs hP1 hz hk hS => ?_)
  have hP : Str G a (h_X4_findGaps (wC S (h_J7_fill_53178 80 (sC S) (-1)))) H := hP1
  refine lv_aload_n hx hb dX4_makeNew_12 rfl (lv_at hl 0 rfl) ?_
  refine lv_iconst (v := 0) hx hb dX4_makeNew_13 (by decide) ?_
  refine va_put (D := G.1) (ci := 2) (v := .int 0) (ty := .int) (C := RX4) (T := TX4) (N := 14) hx hb hts hin4 tyX4 tyX4_ok nmX4 hown hO.1 hP (st_D a (h_X4_findGaps (wC S (h_J7_fill_53178 80 (sC S) (-1)))) hA) hS 0 rfl rfl 8 (by decide) hf_48 (fun _ h9 => h9) rfl (by decide +kernel) rfl rfl (Nat.le_of_ble_eq_true rfl) dX4_makeNew_14 (fun H locs hP hD hS => ?_)
  have hP : Str G a (wN (h_X4_findGaps (wC S (h_J7_fill_53178 80 (sC S) (-1)))) 0) H := st_pN hP
  refine lv_aload_n hx hb dX4_makeNew_17 rfl (lv_at hl 0 rfl) ?_
  refine lv_iconst (v := 0) hx hb dX4_makeNew_18 (by decide) ?_
  refine va_put (D := G.1) (ci := 2) (v := .int 0) (ty := .int) (C := RX4) (T := TX4) (N := 14) hx hb hts hin4 tyX4 tyX4_ok nmX4 hown hO.1 hP (st_D a (wN (h_X4_findGaps (wC S (h_J7_fill_53178 80 (sC S) (-1)))) 0) hA) hS 0 rfl rfl 9 (by decide) hf_52 (fun _ h9 => h9) rfl (by decide +kernel) rfl rfl (Nat.le_of_ble_eq_true rfl) dX4_makeNew_19 (fun H locs hP hD hS => ?_)
  have hP : Str G a (wM (wN (h_X4_findGaps (wC S (h_J7_fill_53178 80 (sC S) (-1)))) 0) 0) H := st_pM hP
  refine lv_aload_n hx hb dX4_makeNew_22 rfl (lv_at hl 0 rfl) ?_
  refine lv_lconst (v := 1) hx hb dX4_makeNew_23 (by decide) ?_
  refine va_put (D := G.1) (ci := 2) (v := .long 1) (ty := .long) (C := RX4) (T := TX4) (N := 14) hx hb hts hin4 tyX4 tyX4_ok nmX4 hown hO.1 hP (st_D a (wM (wN (h_X4_findGaps (wC S (h_J7_fill_53178 80 (sC S) (-1)))) 0) 0) hA) hS 0 rfl rfl 10 (by decide) hf_55 (fun _ h9 => h9) rfl (by decide +kernel) rfl rfl (Nat.le_of_ble_eq_true rfl) dX4_makeNew_24 (fun H locs hP hD hS => ?_)
  have hP : Str G a (wH (wM (wN (h_X4_findGaps (wC S (h_J7_fill_53178 80 (sC S) (-1)))) 0) 0) 1) H := st_pH hP
  refine lv_aload_n hx hb dX4_makeNew_27 rfl (lv_at hl 0 rfl) ?_
  refine lv_iconst (v := 0) hx hb dX4_makeNew_28 (by decide) ?_
  refine va_put (D := G.1) (ci := 2) (v := .int 0) (ty := .int) (C := RX4) (T := TX4) (N := 14) hx hb hts hin4 tyX4 tyX4_ok nmX4 hown hO.1 hP (st_D a (wH (wM (wN (h_X4_findGaps (wC S (h_J7_fill_53178 80 (sC S) (-1)))) 0) 0) 1) hA) hS 0 rfl rfl 11 (by decide) hf_59 (fun _ h9 => h9) rfl (by decide +kernel) rfl rfl (Nat.le_of_ble_eq_true rfl) dX4_makeNew_29 (fun H locs hP hD hS => ?_)
  have hP : Str G a (wU (wH (wM (wN (h_X4_findGaps (wC S (h_J7_fill_53178 80 (sC S) (-1)))) 0) 0) 1) 0) H := st_pU hP
  refine lv_aload_n hx hb dX4_makeNew_32 rfl (lv_at hl 0 rfl) ?_
  refine lv_iconst (v := 1) hx hb dX4_makeNew_33 (by decide) ?_
  refine va_put (D := G.1) (ci := 2) (v := .int 1) (ty := .int) (C := RX4) (T := TX4) (N := 14) hx hb hts hin4 tyX4 tyX4_ok nmX4 hown hO.1 hP (st_D a (wU (wH (wM (wN (h_X4_findGaps (wC S (h_J7_fill_53178 80 (sC S) (-1)))) 0) 0) 1) 0) hA) hS 0 rfl rfl 12 (by decide) hf_62 (fun _ h9 => h9) rfl (by decide +kernel) rfl rfl (Nat.le_of_ble_eq_true rfl) dX4_makeNew_34 (fun H locs hP hD hS => ?_)
  have hP : Str G a (wO (wU (wH (wM (wN (h_X4_findGaps (wC S (h_J7_fill_53178 80 (sC S) (-1)))) 0) 0) 1) 0) 1) H := st_pO hP
  refine lv_aload_n hx hb dX4_makeNew_37 rfl (lv_at hl 0 rfl) ?_
  refine lv_iconst (v := 5) hx hb dX4_makeNew_38 (by decide) ?_
  refine va_put (D := G.1) (ci := 2) (v := .int 5) (ty := .int) (C := RX4) (T := TX4) (N := 14) hx hb hts hin4 tyX4 tyX4_ok nmX4 hown hO.1 hP (st_D a (wO (wU (wH (wM (wN (h_X4_findGaps (wC S (h_J7_fill_53178 80 (sC S) (-1)))) 0) 0) 1) 0) 1) hA) hS 0 rfl rfl 13 (by decide) hf_65 (fun _ h9 => h9) rfl (by decide +kernel) rfl rfl (Nat.le_of_ble_eq_true rfl) dX4_makeNew_39 (fun H locs hP hD hS => ?_)
  have hP : Str G a (wE (wO (wU (wH (wM (wN (h_X4_findGaps (wC S (h_J7_fill_53178 80 (sC S) (-1)))) 0) 0) 1) 0) 1) 5) H := st_pE hP
  have hE : h_X4_makeNew S = (wE (wO (wU (wH (wM (wN (h_X4_findGaps (wC S (h_J7_fill_53178 80 (sC S) (-1)))) 0) 0) 1) 0) 1) 5) := (by rw [h_X4_makeNew])
  exact W.vret hx hb hr (fun t ht hW => ⟨rfl, by rw [ht, hE]; exact hP, hS.F ht⟩) hS.2.2 dX4_makeNew_42
