-- the reference's object: refusal, text, size, now, trial, third, diary, acts, kept, isKept, spot, out
abbrev Mo : Type := Int32 × Rw × Int32 × Rw × Rw × Rw × Rw × Int32 × Rw × Rw × Int32 × Int32
def mA (M : Mo) : Int32 := M.1
def mT (M : Mo) : Rw := M.2.1
def mZ (M : Mo) : Int32 := M.2.2.1
def mN (M : Mo) : Rw := M.2.2.2.1
def mR (M : Mo) : Rw := M.2.2.2.2.1
def mH (M : Mo) : Rw := M.2.2.2.2.2.1
def mD (M : Mo) : Rw := M.2.2.2.2.2.2.1
def mC (M : Mo) : Int32 := M.2.2.2.2.2.2.2.1
def mK (M : Mo) : Rw := M.2.2.2.2.2.2.2.2.1
def mI (M : Mo) : Rw := M.2.2.2.2.2.2.2.2.2.1
def mS (M : Mo) : Int32 := M.2.2.2.2.2.2.2.2.2.2.1
def mO (M : Mo) : Int32 := M.2.2.2.2.2.2.2.2.2.2.2
def oA (M : Mo) (v : Int32) : Mo := (v, M.2)
def oT (M : Mo) (v : Rw) : Mo := (M.1, v, M.2.2)
def oZ (M : Mo) (v : Int32) : Mo := (M.1, M.2.1, v, M.2.2.2)
def oN (M : Mo) (v : Rw) : Mo := (M.1, M.2.1, M.2.2.1, v, M.2.2.2.2)
def oR (M : Mo) (v : Rw) : Mo := (M.1, M.2.1, M.2.2.1, M.2.2.2.1, v, M.2.2.2.2.2)
def oH (M : Mo) (v : Rw) : Mo := (M.1, M.2.1, M.2.2.1, M.2.2.2.1, M.2.2.2.2.1, v, M.2.2.2.2.2.2)
def oD (M : Mo) (v : Rw) : Mo := (M.1, M.2.1, M.2.2.1, M.2.2.2.1, M.2.2.2.2.1, M.2.2.2.2.2.1, v, M.2.2.2.2.2.2.2)
def oC (M : Mo) (v : Int32) : Mo := (M.1, M.2.1, M.2.2.1, M.2.2.2.1, M.2.2.2.2.1, M.2.2.2.2.2.1, M.2.2.2.2.2.2.1, v, M.2.2.2.2.2.2.2.2)
def oK (M : Mo) (v : Rw) : Mo := (M.1, M.2.1, M.2.2.1, M.2.2.2.1, M.2.2.2.2.1, M.2.2.2.2.2.1, M.2.2.2.2.2.2.1, M.2.2.2.2.2.2.2.1, v, M.2.2.2.2.2.2.2.2.2)
def oI (M : Mo) (v : Rw) : Mo := (M.1, M.2.1, M.2.2.1, M.2.2.2.1, M.2.2.2.2.1, M.2.2.2.2.2.1, M.2.2.2.2.2.2.1, M.2.2.2.2.2.2.2.1, M.2.2.2.2.2.2.2.2.1, v, M.2.2.2.2.2.2.2.2.2.2)
def oS (M : Mo) (v : Int32) : Mo := (M.1, M.2.1, M.2.2.1, M.2.2.2.1, M.2.2.2.2.1, M.2.2.2.2.2.1, M.2.2.2.2.2.2.1, M.2.2.2.2.2.2.2.1, M.2.2.2.2.2.2.2.2.1, M.2.2.2.2.2.2.2.2.2.1, v, M.2.2.2.2.2.2.2.2.2.2.2)
def oO (M : Mo) (v : Int32) : Mo := (M.1, M.2.1, M.2.2.1, M.2.2.2.1, M.2.2.2.2.1, M.2.2.2.2.2.1, M.2.2.2.2.2.2.1, M.2.2.2.2.2.2.2.1, M.2.2.2.2.2.2.2.2.1, M.2.2.2.2.2.2.2.2.2.1, M.2.2.2.2.2.2.2.2.2.2.1, v)
abbrev mdW (G : GG) (b : Nat) (M : Mo) : va_W := [(b, .inr (5, [.int (mA M), .ref (b + 1), .int (mZ M), .ref (b + 2), .ref (b + 3), .ref (b + 4), .ref (b + 5), .int (mC M), .ref (b + 6), .ref (b + 7), .int (mS M), .int (mO M)])), (b + 1, .inl (G.2 0, 120, .inl (mT M))), (b + 2, .inl (G.2 0, 327, .inl (mN M))), (b + 3, .inl (G.2 0, 327, .inl (mR M))), (b + 4, .inl (G.2 0, 327, .inl (mH M))), (b + 5, .inl (G.2 0, 4578, .inl (mD M))), (b + 6, .inl (G.2 0, 654, .inl (mK M))), (b + 7, .inl (G.2 2, 2, .inl (mI M)))]
abbrev Md (G : GG) (b : Nat) (M : Mo) (H : Heap) : Prop := va_P G.1 vwCl (mdW G b M) H
theorem md_adr (G : GG) (b : Nat) (M : Mo) : ∀ (k : Nat) (q : Nat × va_E), (mdW G b M)[k]? = some q → q.1 = b + k := by
  intro k q hk
  have hl : k < 8 := (List.getElem?_eq_some_iff.mp hk).1
  match k, hk, hl with
  | 0, hk, _ => cases hk; rfl
  | 1, hk, _ => cases hk; rfl
  | 2, hk, _ => cases hk; rfl
  | 3, hk, _ => cases hk; rfl
  | 4, hk, _ => cases hk; rfl
  | 5, hk, _ => cases hk; rfl
  | 6, hk, _ => cases hk; rfl
  | 7, hk, _ => cases hk; rfl
theorem md_D {G : GG} {A : Nat → Prop} (b : Nat) (M : Mo) (hA : ∀ q, blk b (b + 8) q → A q) : va_D A (mdW G b M) :=
  seq_D b _ (md_adr G b M) (fun q h1 h2 => hA q ⟨h1, h2⟩)
theorem md_blk {G : GG} {b : Nat} {M : Mo} {k : Nat} {q : Nat × va_E} (h : (mdW G b M)[k]? = some q) : b ≤ q.1 ∧ q.1 < b + 8 := by
  have h1 := md_adr G b M k q h
  have h2 : k < 8 := (List.getElem?_eq_some_iff.mp h).1
  omega
theorem md_recv {G : GG} {s : State} {H : Heap} {b : Nat} {M : Mo} (hO : Ok G s) (hP : Md G b M H) : ∃ cell : Cell, H[b]? = some cell ∧ cell.vm.isStatics = false ∧ s.vm.findClass RX7 = some cell.cls := va_recv hO.1 hP (ci := 5) (q0 := 0) rfl rfl
theorem mo_row {G : GG} {b : Nat} {M : Mo} {H H1 : Heap} (p : Nat) {a n : Nat} {c : ClassId} {f f1 : Rw} (hP : Md G b M H) (hp : (mdW G b M)[p]? = some (a, .inl (c, n, .inl f))) (h1 : va_P G.1 vwCl [(a, .inl (c, n, .inl f1))] H1) (hk : ∀ q : Nat, q < H.size → ¬ one a q → H1[q]? = H[q]?) : va_P G.1 vwCl ((mdW G b M).set p (a, .inl (c, n, .inl f1))) H1 := by
  have hl := (List.getElem?_eq_some_iff.mp hp).1
  intro k q hq
  by_cases hkp : k = p
  · subst hkp
    rw [List.getElem?_set_self hl] at hq
    cases hq
    exact h1 0 _ rfl
  · rw [List.getElem?_set_ne (Ne.symm hkp)] at hq
    refine (hP k q hq).kept (hk q.1 (hP k q hq).lt fun z => ?_)
    have e1 := md_adr G b M k q hq
    have e2 := md_adr G b M p _ hp
    simp only [one] at z
    simp only at e2
    omega
abbrev Two2 (G : GG) (b n : Nat) (f : Rw) (a m : Nat) (g : Rw) (H : Heap) : Prop := va_P G.1 vwCl [(b, .inl (G.2 0, n, .inl f)), (a, .inl (G.2 0, m, .inl g))] H
theorem two2_p {G : GG} {b a n m : Nat} {f g0 g : Rw} {H : Heap} (h : va_P G.1 vwCl (([(b, .inl (G.2 0, n, .inl f)), (a, .inl (G.2 0, m, .inl g0))] : va_W).set 1 (a, .inl (G.2 0, m, .inl g))) H) : Two2 G b n f a m g H := h
theorem md_pA {G : GG} {b : Nat} {M : Mo} {v : Int32} {H : Heap} (h : va_P G.1 vwCl ((mdW G b M).set 0 (b, .inr (5, ([.int (mA M), .ref (b + 1), .int (mZ M), .ref (b + 2), .ref (b + 3), .ref (b + 4), .ref (b + 5), .int (mC M), .ref (b + 6), .ref (b + 7), .int (mS M), .int (mO M)] : List Value).set 0 (.int v)))) H) : Md G b (oA M v) H := h
theorem md_pZ {G : GG} {b : Nat} {M : Mo} {v : Int32} {H : Heap} (h : va_P G.1 vwCl ((mdW G b M).set 0 (b, .inr (5, ([.int (mA M), .ref (b + 1), .int (mZ M), .ref (b + 2), .ref (b + 3), .ref (b + 4), .ref (b + 5), .int (mC M), .ref (b + 6), .ref (b + 7), .int (mS M), .int (mO M)] : List Value).set 2 (.int v)))) H) : Md G b (oZ M v) H := h
theorem md_pC {G : GG} {b : Nat} {M : Mo} {v : Int32} {H : Heap} (h : va_P G.1 vwCl ((mdW G b M).set 0 (b, .inr (5, ([.int (mA M), .ref (b + 1), .int (mZ M), .ref (b + 2), .ref (b + 3), .ref (b + 4), .ref (b + 5), .int (mC M), .ref (b + 6), .ref (b + 7), .int (mS M), .int (mO M)] : List Value).set 7 (.int v)))) H) : Md G b (oC M v) H := h
theorem md_pS {G : GG} {b : Nat} {M : Mo} {v : Int32} {H : Heap} (h : va_P G.1 vwCl ((mdW G b M).set 0 (b, .inr (5, ([.int (mA M), .ref (b + 1), .int (mZ M), .ref (b + 2), .ref (b + 3), .ref (b + 4), .ref (b + 5), .int (mC M), .ref (b + 6), .ref (b + 7), .int (mS M), .int (mO M)] : List Value).set 10 (.int v)))) H) : Md G b (oS M v) H := h
theorem md_pO {G : GG} {b : Nat} {M : Mo} {v : Int32} {H : Heap} (h : va_P G.1 vwCl ((mdW G b M).set 0 (b, .inr (5, ([.int (mA M), .ref (b + 1), .int (mZ M), .ref (b + 2), .ref (b + 3), .ref (b + 4), .ref (b + 5), .int (mC M), .ref (b + 6), .ref (b + 7), .int (mS M), .int (mO M)] : List Value).set 11 (.int v)))) H) : Md G b (oO M v) H := h
theorem md_pT {G : GG} {b : Nat} {M : Mo} {v : Rw} {H : Heap} (h : va_P G.1 vwCl ((mdW G b M).set 1 (b + 1, .inl (G.2 0, 120, .inl v))) H) : Md G b (oT M v) H := h
theorem md_pN {G : GG} {b : Nat} {M : Mo} {v : Rw} {H : Heap} (h : va_P G.1 vwCl ((mdW G b M).set 2 (b + 2, .inl (G.2 0, 327, .inl v))) H) : Md G b (oN M v) H := h
theorem md_pR {G : GG} {b : Nat} {M : Mo} {v : Rw} {H : Heap} (h : va_P G.1 vwCl ((mdW G b M).set 3 (b + 3, .inl (G.2 0, 327, .inl v))) H) : Md G b (oR M v) H := h
theorem md_pH {G : GG} {b : Nat} {M : Mo} {v : Rw} {H : Heap} (h : va_P G.1 vwCl ((mdW G b M).set 4 (b + 4, .inl (G.2 0, 327, .inl v))) H) : Md G b (oH M v) H := h
theorem md_pD {G : GG} {b : Nat} {M : Mo} {v : Rw} {H : Heap} (h : va_P G.1 vwCl ((mdW G b M).set 5 (b + 5, .inl (G.2 0, 4578, .inl v))) H) : Md G b (oD M v) H := h
theorem md_pK {G : GG} {b : Nat} {M : Mo} {v : Rw} {H : Heap} (h : va_P G.1 vwCl ((mdW G b M).set 6 (b + 6, .inl (G.2 0, 654, .inl v))) H) : Md G b (oK M v) H := h
theorem md_pI {G : GG} {b : Nat} {M : Mo} {v : Rw} {H : Heap} (h : va_P G.1 vwCl ((mdW G b M).set 7 (b + 7, .inl (G.2 2, 2, .inl v))) H) : Md G b (oI M v) H := h

def lp_cpSt (f : Rw) (i0 i1 : Nat) : Nat → Nat → Rw → Rw
  | 0, _, g2 => g2
  | n + 1, k, g2 => if 327 ≤ (nI k) then g2 else
    lp_cpSt f i0 i1 n (k + 1) (upd g2 (i1 + k) (f (i0 + k)))
def h_X7_copyState (f g : Rw) (i0 i1 : Nat) : Rw :=
  lp_cpSt f i0 i1 (327 + 1) 0 g
set_option maxHeartbeats 4000000 in
set_option maxRecDepth 100000 in
theorem c_X7_copyState (l : Launch) (G : GG) (b w0 : Nat) (f : Rw) (a w1 : Nat) (g : Rw) (i0 i1 : Nat) (hi0 : i0 + 327 ≤ w0) (hi1 : i1 + 327 ≤ w1) (hw0 : w0 < 10000) (hw1 : w1 < 10000) (hd : b ≠ a) : Met l yX7_copyState wsX7_copyState ({ frames := 0, cells := 0, slots := 0, locals := 0 }) (PcH G [.ref b, .int (nI i0), .ref a, .int (nI i1)] (Two2 G b w0 f a w1 g)) (QM none (Two2 G b w0 f a w1 (h_X7_copyState f g i0 i1)) (two b a)) 0 0 (two b a) := by
  refine metH (cc := cX7_copyState) (maxL := 5) (ret := none) (by decide) rfl ?_
  intro p e s m below meth cd hx hb hr hml hown hts hlocks hP hO
  have hA : ∀ q, (two b a) q → (two b a) q := fun _ h => h
  have hS : va_S (two b a) s.heap s.heap [] := va_S.rf
  have hl := lv_entry ([.ref b, .int (nI i0), .ref a, .int (nI i1)]) (n := 5) (Nat.le_of_ble_eq_true rfl)
  rw [lg_entry_eq]
  generalize (lg_sl ([.ref b, .int (nI i0), .ref a, .int (nI i1)]) ++ List.replicate (5 - (lg_sl ([.ref b, .int (nI i0), .ref a, .int (nI i1)])).length) Slot.unset).toArray = ls at hl ⊢
  have hl : lv_has ls 5 [(0, .ref b), (1, .int (nI i0)), (2, .ref a), (3, .int (nI i1))] := hl
  have loop3 : ∀ (n : Nat) (k : Nat) (g2 : Rw), k ≤ 327 → k + n = 327 + 1 → h_X7_copyState f g i0 i1 = lp_cpSt f i0 i1 n k g2 → ∀ (H : Heap) (locs : List Loc) (ls : Array Slot), Two2 G b w0 f a w1 g2 H → va_S (two b a) s.heap H locs → lv_has ls 5 [(0, .ref b), (1, .int (nI i0)), (2, .ref a), (3, .int (nI i1)), (4, .int (nI k))] → W p l e (headSpec wsX7_copyState ({ frames := 0, cells := 0, slots := 0, locals := 0 } : Room)).room s m ([.ref b, .int (nI i0), .ref a, .int (nI i1)] : List Value).toArray below meth cd H locs 0 0 (MQ below (QM none (Two2 G b w0 f a w1 (h_X7_copyState f g i0 i1)) (two b a)) ([.ref b, .int (nI i0), .ref a, .int (nI i1)] : List Value).toArray s 0 0 (two b a)) (F0 m 3 ls []) := by
    intro n
    induction n with
    | zero =>
      intro k g2 hk hn hR H locs ls hP hS hl
      exact absurd hn (by omega)
    | succ n ih =>
      intro k g2 hk hn hR H locs ls hP hS hl
      refine lv_iload hx hb dX7_copyState_3 (lv_at hl 4 rfl) ?_
      refine lv_sipush (v := 327) hx hb dX7_copyState_5 (by decide) ?_
      refine lv_icmp_ge (tgt := 29) hx hb dX7_copyState_8 (by decide) (fun c_1 => ?_) (fun c_1 => ?_)
      · have hE : h_X7_copyState f g i0 i1 = g2 := (hR.trans (by rw [lp_cpSt, if_pos c_1]))
        exact W.vret hx hb hr (fun t ht hW => ⟨rfl, by rw [ht, hE]; exact hP, hS.F ht⟩) hS.2.2 dX7_copyState_29
      · have hlt : k < 327 := kN (B := 327) c_1 (by omega) (by omega)
        refine lv_aload_n hx hb dX7_copyState_11 rfl (lv_at hl 2 rfl) ?_
        refine lv_iload_n hx hb dX7_copyState_12 rfl (lv_at hl 3 rfl) ?_
        refine lv_iload hx hb dX7_copyState_13 (lv_at hl 4 rfl) ?_
        refine iadd_n (a := i1) (b := k) hx hb dX7_copyState_15 ?_
        refine lv_aload_n hx hb dX7_copyState_16 rfl (lv_at hl 0 rfl) ?_
        refine lv_iload_n hx hb dX7_copyState_17 rfl (lv_at hl 1 rfl) ?_
        refine lv_iload hx hb dX7_copyState_18 (lv_at hl 4 rfl) ?_
        refine iadd_n (a := i0) (b := k) hx hb dX7_copyState_20 ?_
        refine iald_n hx hb hO.1 hP 0 0 rfl rfl (by omega) (by omega) dX7_copyState_21 ?_
        refine iast_n hx hb hO.1 hP (two_D hd hA) hS 1 0 rfl rfl (by omega) (by omega) dX7_copyState_22 (fun H locs hP hD hS => ?_)
        have hP : Two2 G b w0 f a w1 (upd g2 (i1 + k) (f (i0 + k))) H := two2_p hP
        refine lv_iinc (v := nI (k + 1)) (lv' := [(4, .int (nI (k + 1))), (0, .ref b), (1, .int (nI i0)), (2, .ref a), (3, .int (nI i1))]) hx hb dX7_copyState_23 hl (k := 4) rfl (nI_1 _) (by decide) rfl (fun ls hl => ?_)
        refine lv_goto (tgt := 3) hx hb dX7_copyState_26 (by decide) ?_
        have hE_2 : h_X7_copyState f g i0 i1 = lp_cpSt f i0 i1 n (k + 1) (upd g2 (i1 + k) (f (i0 + k))) := (hR.trans (by rw [lp_cpSt, if_neg c_1]))
        exact ih (k + 1) (upd g2 (i1 + k) (f (i0 + k))) (by omega) (by omega) hE_2 _ _ _ hP hS (lv_sub hl [1, 2, 3, 4, 0] rfl)
  refine lv_iconst (v := 0) hx hb dX7_copyState_0 (by decide) ?_
  refine lv_istore (lv' := [(4, .int 0), (0, .ref b), (1, .int (nI i0)), (2, .ref a), (3, .int (nI i1))]) hx hb dX7_copyState_1 hl (by decide) rfl (fun ls hl => ?_)
  have hE_3 : h_X7_copyState f g i0 i1 = lp_cpSt f i0 i1 (327 + 1) 0 g := (by rw [h_X7_copyState])
  exact loop3 (327 + 1) 0 g (Nat.zero_le _) (by omega) hE_3 _ _ _ hP hS (lv_sub hl [1, 2, 3, 4, 0] rfl)

def lp_cl2  : Nat → Nat → Rw → Rw
  | 0, _, g2 => g2
  | n + 1, k, g2 => if 80 ≤ (nI k) then (upd (upd (upd g2 3 1) 4 5) 6 1) else
    lp_cl2 n (k + 1) (upd g2 (7 + k) (-1))
def lp_cl1  : Nat → Nat → Rw → Rw
  | 0, _, g2 => g2
  | n + 1, k, g2 => if 327 ≤ (nI k) then lp_cl2 (80 + 1) 0 g2 else
    lp_cl1 n (k + 1) (upd g2 k 0)
def h_X7_clear (g : Rw) : Rw :=
  lp_cl1 (327 + 1) 0 g
set_option maxHeartbeats 4000000 in
set_option maxRecDepth 100000 in
theorem c_X7_clear (l : Launch) (G : GG) (a : Nat) (g : Rw) : Met l yX7_clear wsX7_clear ({ frames := 0, cells := 0, slots := 0, locals := 0 }) (PcH G [.ref a] (Arr G 0 a 327 g)) (QM none (Arr G 0 a 327 (h_X7_clear g)) (one a)) 0 0 (one a) := by
  refine metH (cc := cX7_clear) (maxL := 2) (ret := none) (by decide) rfl ?_
  intro p e s m below meth cd hx hb hr hml hown hts hlocks hP hO
  have hA : ∀ q, (one a) q → (one a) q := fun _ h => h
  have hS : va_S (one a) s.heap s.heap [] := va_S.rf
  have hl := lv_entry ([.ref a]) (n := 2) (Nat.le_of_ble_eq_true rfl)
  rw [lg_entry_eq]
  generalize (lg_sl ([.ref a]) ++ List.replicate (2 - (lg_sl ([.ref a])).length) Slot.unset).toArray = ls at hl ⊢
  have hl : lv_has ls 2 [(0, .ref a)] := hl
  have loop21 : ∀ (n : Nat) (k : Nat) (g2 : Rw), k ≤ 80 → k + n = 80 + 1 → h_X7_clear g = lp_cl2  n k g2 → ∀ (H : Heap) (locs : List Loc) (ls : Array Slot), Arr G 0 a 327 g2 H → va_S (one a) s.heap H locs → lv_has ls 2 [(0, .ref a), (1, .int (nI k))] → W p l e (headSpec wsX7_clear ({ frames := 0, cells := 0, slots := 0, locals := 0 } : Room)).room s m ([.ref a] : List Value).toArray below meth cd H locs 0 0 (MQ below (QM none (Arr G 0 a 327 (h_X7_clear g)) (one a)) ([.ref a] : List Value).toArray s 0 0 (one a)) (F0 m 21 ls []) := by
    intro n
    induction n with
    | zero =>
      intro k g2 hk hn hR H locs ls hP hS hl
      exact absurd hn (by omega)
    | succ n ih =>
      intro k g2 hk hn hR H locs ls hP hS hl
      refine lv_iload_n hx hb dX7_clear_21 rfl (lv_at hl 1 rfl) ?_
      refine lv_bipush (v := 80) hx hb dX7_clear_22 (by decide) ?_
      refine lv_icmp_ge (tgt := 40) hx hb dX7_clear_24 (by decide) (fun c_1 => ?_) (fun c_1 => ?_)
      · refine lv_aload_n hx hb dX7_clear_40 rfl (lv_at hl 0 rfl) ?_
        refine lv_iconst (v := 3) hx hb dX7_clear_41 (by decide) ?_
        refine lv_iconst (v := 1) hx hb dX7_clear_42 (by decide) ?_
        refine iast_n (k := 3) hx hb hO.1 hP (Arr_D (hA _ rfl)) hS 0 0 rfl rfl (by omega) (by decide) dX7_clear_43 (fun H locs hP hD hS => ?_)
        have hP : Arr G 0 a 327 (upd g2 3 1) H := id hP
        refine lv_aload_n hx hb dX7_clear_44 rfl (lv_at hl 0 rfl) ?_
        refine lv_iconst (v := 4) hx hb dX7_clear_45 (by decide) ?_
        refine lv_iconst (v := 5) hx hb dX7_clear_46 (by decide) ?_
        refine iast_n (k := 4) hx hb hO.1 hP (Arr_D (hA _ rfl)) hS 0 0 rfl rfl (by omega) (by decide) dX7_clear_47 (fun H locs hP hD hS => ?_)
        have hP : Arr G 0 a 327 (upd (upd g2 3 1) 4 5) H := id hP
        refine lv_aload_n hx hb dX7_clear_48 rfl (lv_at hl 0 rfl) ?_
        refine lv_bipush (v := 6) hx hb dX7_clear_49 (by decide) ?_
        refine lv_iconst (v := 1) hx hb dX7_clear_51 (by decide) ?_
        refine iast_n (k := 6) hx hb hO.1 hP (Arr_D (hA _ rfl)) hS 0 0 rfl rfl (by omega) (by decide) dX7_clear_52 (fun H locs hP hD hS => ?_)
        have hP : Arr G 0 a 327 (upd (upd (upd g2 3 1) 4 5) 6 1) H := id hP
        have hE : h_X7_clear g = (upd (upd (upd g2 3 1) 4 5) 6 1) := (hR.trans (by rw [lp_cl2, if_pos c_1]))
        exact W.vret hx hb hr (fun t ht hW => ⟨rfl, by rw [ht, hE]; exact hP, hS.F ht⟩) hS.2.2 dX7_clear_53
      · have hlt : k < 80 := kN (B := 80) c_1 (by omega) (by omega)
        refine lv_aload_n hx hb dX7_clear_27 rfl (lv_at hl 0 rfl) ?_
        refine lv_bipush (v := 7) hx hb dX7_clear_28 (by decide) ?_
        refine lv_iload_n hx hb dX7_clear_30 rfl (lv_at hl 1 rfl) ?_
        refine iadd_n (a := 7) (b := k) hx hb dX7_clear_31 ?_
        refine lv_iconst (v := -1) hx hb dX7_clear_32 (by decide) ?_
        refine iast_n hx hb hO.1 hP (Arr_D (hA _ rfl)) hS 0 0 rfl rfl (by omega) (by decide) dX7_clear_33 (fun H locs hP hD hS => ?_)
        have hP : Arr G 0 a 327 (upd g2 (7 + k) (-1)) H := id hP
        refine lv_iinc (v := nI (k + 1)) (lv' := [(1, .int (nI (k + 1))), (0, .ref a)]) hx hb dX7_clear_34 hl (k := 1) rfl (nI_1 _) (by decide) rfl (fun ls hl => ?_)
        refine lv_goto (tgt := 21) hx hb dX7_clear_37 (by decide) ?_
        have hE_2 : h_X7_clear g = lp_cl2 n (k + 1) (upd g2 (7 + k) (-1)) := (hR.trans (by rw [lp_cl2, if_neg c_1]))
        exact ih (k + 1) (upd g2 (7 + k) (-1)) (by omega) (by omega) hE_2 _ _ _ hP hS (lv_sub hl [1, 0] rfl)
  have loop2 : ∀ (n : Nat) (k : Nat) (g2 : Rw), k ≤ 327 → k + n = 327 + 1 → h_X7_clear g = lp_cl1  n k g2 → ∀ (H : Heap) (locs : List Loc) (ls : Array Slot), Arr G 0 a 327 g2 H → va_S (one a) s.heap H locs → lv_has ls 2 [(0, .ref a), (1, .int (nI k))] → W p l e (headSpec wsX7_clear ({ frames := 0, cells := 0, slots := 0, locals := 0 } : Room)).room s m ([.ref a] : List Value).toArray below meth cd H locs 0 0 (MQ below (QM none (Arr G 0 a 327 (h_X7_clear g)) (one a)) ([.ref a] : List Value).toArray s 0 0 (one a)) (F0 m 2 ls []) := by
    intro n
    induction n with
    | zero =>
      intro k g2 hk hn hR H locs ls hP hS hl
      exact absurd hn (by omega)
    | succ n ih =>
      intro k g2 hk hn hR H locs ls hP hS hl
      refine lv_iload_n hx hb dX7_clear_2 rfl (lv_at hl 1 rfl) ?_
      refine lv_sipush (v := 327) hx hb dX7_clear_3 (by decide) ?_
      refine lv_icmp_ge (tgt := 19) hx hb dX7_clear_6 (by decide) (fun c_3 => ?_) (fun c_3 => ?_)
      · refine lv_iconst (v := 0) hx hb dX7_clear_19 (by decide) ?_
        refine lv_istore_n (lv' := [(1, .int 0), (0, .ref a)]) hx hb dX7_clear_20 rfl hl (by decide) rfl (fun ls hl => ?_)
        have hE_4 : h_X7_clear g = lp_cl2 (80 + 1) 0 g2 := (hR.trans (by rw [lp_cl1, if_pos c_3]))
        exact loop21 (80 + 1) 0 g2 (Nat.zero_le _) (by omega) hE_4 _ _ _ hP hS (lv_sub hl [1, 0] rfl)
      · have hlt : k < 327 := kN (B := 327) c_3 (by omega) (by omega)
        refine lv_aload_n hx hb dX7_clear_9 rfl (lv_at hl 0 rfl) ?_
        refine lv_iload_n hx hb dX7_clear_10 rfl (lv_at hl 1 rfl) ?_
        refine lv_iconst (v := 0) hx hb dX7_clear_11 (by decide) ?_
        refine iast_n hx hb hO.1 hP (Arr_D (hA _ rfl)) hS 0 0 rfl rfl (by omega) (by decide) dX7_clear_12 (fun H locs hP hD hS => ?_)
        have hP : Arr G 0 a 327 (upd g2 k 0) H := id hP
        refine lv_iinc (v := nI (k + 1)) (lv' := [(1, .int (nI (k + 1))), (0, .ref a)]) hx hb dX7_clear_13 hl (k := 1) rfl (nI_1 _) (by decide) rfl (fun ls hl => ?_)
        refine lv_goto (tgt := 2) hx hb dX7_clear_16 (by decide) ?_
        have hE_5 : h_X7_clear g = lp_cl1 n (k + 1) (upd g2 k 0) := (hR.trans (by rw [lp_cl1, if_neg c_3]))
        exact ih (k + 1) (upd g2 k 0) (by omega) (by omega) hE_5 _ _ _ hP hS (lv_sub hl [1, 0] rfl)
  refine lv_iconst (v := 0) hx hb dX7_clear_0 (by decide) ?_
  refine lv_istore_n (lv' := [(1, .int 0), (0, .ref a)]) hx hb dX7_clear_1 rfl hl (by decide) rfl (fun ls hl => ?_)
  have hE_6 : h_X7_clear g = lp_cl1 (327 + 1) 0 g := (by rw [h_X7_clear])
  exact loop2 (327 + 1) 0 g (Nat.zero_le _) (by omega) hE_6 _ _ _ hP hS (lv_sub hl [1, 0] rfl)

def f_X7_thrown (M : Mo) : Int32 :=
  mA M
set_option maxHeartbeats 4000000 in
set_option maxRecDepth 100000 in
theorem c_X7_thrown (l : Launch) (G : GG) (b : Nat) (M : Mo) : Met l yX7_thrown wsX7_thrown ({ frames := 0, cells := 0, slots := 0, locals := 0 }) (PcH G [.ref b] (Md G b M)) (QP (some (.int (f_X7_thrown M)))) 0 0 noA := by
  refine metH (cc := cX7_thrown) (maxL := 1) (ret := (some .int)) (by decide) rfl ?_
  intro p e s m below meth cd hx hb hr hml hown hts hlocks hP hO
  have hin7 : ∀ w ∈ u_ws RX7 TX7 12, w ∈ wsX7_thrown := by decide +kernel
  have hf_36 := hts (.fieldLink RX7 36 "CurbCarsModel" "refusal" "I") (by decide +kernel)
  have hS : va_S noA s.heap s.heap [] := va_S.rf
  have hl := lv_entry ([.ref b]) (n := 1) (Nat.le_of_ble_eq_true rfl)
  rw [lg_entry_eq]
  generalize (lg_sl ([.ref b]) ++ List.replicate (1 - (lg_sl ([.ref b])).length) Slot.unset).toArray = ls at hl ⊢
  have hl : lv_has ls 1 [(0, .ref b)] := hl
  refine lv_aload_n hx hb dX7_thrown_0 rfl (lv_at hl 0 rfl) ?_
  refine va_get (D := G.1) (ci := 5) (v := .int (mA M)) (C := RX7) (T := TX7) (N := 12) hx hb hts hin7 hown hO.1 hP 0 rfl rfl 0 (by decide) hf_36 (fun _ h9 => h9) rfl dX7_thrown_1 ?_
  have hE : f_X7_thrown M = mA M := (by rw [f_X7_thrown])
  exact W.iret hx hb hr (fun t ht hW => ⟨by rw [hE], ht⟩) hS.2.2 dX7_thrown_4

def h_X7_refused (M : Mo) (w : Int32) : Int32 × Mo :=
  if w ≤ 0 then (0, (oA M w)) else
  (1, (oA M w))
set_option maxHeartbeats 4000000 in
set_option maxRecDepth 100000 in
theorem c_X7_refused (l : Launch) (G : GG) (b : Nat) (M : Mo) (w : Int32) : Met l yX7_refused wsX7_refused ({ frames := 0, cells := 0, slots := 0, locals := 0 }) (PcH G [.ref b, .int w] (Md G b M)) (QM (some (.int ((h_X7_refused M w).1))) (Md G b ((h_X7_refused M w).2)) (blk b (b + 8))) 0 0 (blk b (b + 8)) := by
  refine metH (cc := cX7_refused) (maxL := 2) (ret := (some .boolean)) (by decide) rfl ?_
  intro p e s m below meth cd hx hb hr hml hown hts hlocks hP hO
  have hin7 : ∀ w ∈ u_ws RX7 TX7 12, w ∈ wsX7_refused := by decide +kernel
  have hf_36 := hts (.fieldLink RX7 36 "CurbCarsModel" "refusal" "I") (by decide +kernel)
  have hA : ∀ q, (blk b (b + 8)) q → (blk b (b + 8)) q := fun _ h => h
  have hS : va_S (blk b (b + 8)) s.heap s.heap [] := va_S.rf
  have hl := lv_entry ([.ref b, .int w]) (n := 2) (Nat.le_of_ble_eq_true rfl)
  rw [lg_entry_eq]
  generalize (lg_sl ([.ref b, .int w]) ++ List.replicate (2 - (lg_sl ([.ref b, .int w])).length) Slot.unset).toArray = ls at hl ⊢
  have hl : lv_has ls 2 [(0, .ref b), (1, .int w)] := hl
  refine lv_aload_n hx hb dX7_refused_0 rfl (lv_at hl 0 rfl) ?_
  refine lv_iload_n hx hb dX7_refused_1 rfl (lv_at hl 1 rfl) ?_
  refine va_put (D := G.1) (ci := 5) (v := .int w) (ty := .int) (C := RX7) (T := TX7) (N := 12) hx hb hts hin7 tyX7 tyX7_ok nmX7 hown hO.1 hP (md_D b M hA) hS 0 rfl rfl 0 (by decide) hf_36 (fun _ h9 => h9) rfl (by decide +kernel) rfl rfl (Nat.le_of_ble_eq_true rfl) dX7_refused_2 (fun H locs hP hD hS => ?_)
  have hP : Md G b (oA M w) H := md_pA hP
  refine lv_iload_n hx hb dX7_refused_5 rfl (lv_at hl 1 rfl) ?_
  refine lv_if_le (tgt := 13) hx hb dX7_refused_6 (by decide) (fun c_1 => ?_) (fun c_1 => ?_)
  · refine lv_iconst (v := 0) hx hb dX7_refused_13 (by decide) ?_
    have hE : h_X7_refused M w = (0, (oA M w)) := (by rw [h_X7_refused, if_pos c_1])
    have hE2 := snd_of hE
    exact W.zret (ty := .boolean) hx hb hr rfl (fun t ht hW => ⟨by rw [fst_of hE], by rw [ht, hE2]; exact hP, hS.F ht⟩) hS.2.2 dX7_refused_14
  · refine lv_iconst (v := 1) hx hb dX7_refused_9 (by decide) ?_
    refine lv_goto (tgt := 14) hx hb dX7_refused_10 (by decide) ?_
    have hE : h_X7_refused M w = (1, (oA M w)) := (by rw [h_X7_refused, if_neg c_1])
    have hE2 := snd_of hE
    exact W.zret (ty := .boolean) hx hb hr rfl (fun t ht hW => ⟨by rw [fst_of hE], by rw [ht, hE2]; exact hP, hS.F ht⟩) hS.2.2 dX7_refused_14

theorem b_h_X7_refused (M : Mo) (w : Int32) : (h_X7_refused M w).1 = 0 ∨ (h_X7_refused M w).1 = 1 := by
  unfold h_X7_refused
  repeat' split
  all_goals first | exact Or.inl rfl | exact Or.inr rfl

theorem ref_0 (M : Mo) : (h_X7_refused M 0).1 = 0 := by rw [h_X7_refused, if_pos (by decide)]
theorem ref_p1 (M : Mo) : ¬ (h_X7_refused M 1).1 = 0 := by rw [h_X7_refused, if_neg (by decide)]; exact (by decide : ¬ (1 : Int32) = 0)
theorem ref_p2 (M : Mo) : ¬ (h_X7_refused M 2).1 = 0 := by rw [h_X7_refused, if_neg (by decide)]; exact (by decide : ¬ (1 : Int32) = 0)
theorem ref_M (M : Mo) (w : Int32) : (h_X7_refused M w).2 = oA M w := by
  rw [h_X7_refused]
  split <;> rfl
def zz (M : Mo) : Nat := (mZ M).toNatClampNeg
theorem ref_Z (M : Mo) (w : Int32) : mZ (h_X7_refused M w).2 = mZ M := by
  rw [ref_M]
  rfl
theorem lt120 {x : Int32} {z : Nat} (h : x = nI z) (hz : z ≤ 120) (hn : ¬ x = 120) : z < 120 := by
  rcases Nat.lt_or_ge z 120 with q | q
  · exact q
  · exact absurd (by rw [h, show z = 120 by omega]; rfl) hn

def h_X7_append (M : Mo) (ch : Int32) : Int32 × Mo :=
  if (f_X7_in ch.toInt64 0 255) = 0 then (0, (h_X7_refused M 1).2) else
  if (mZ M) = 120 then (0, (h_X7_refused M 2).2) else
  (mZ (oZ (oT ((h_X7_refused M 0).2) (upd (mT ((h_X7_refused M 0).2)) (zz M) ch)) ((mZ (oT ((h_X7_refused M 0).2) (upd (mT ((h_X7_refused M 0).2)) (zz M) ch))) + 1)), (oZ (oT ((h_X7_refused M 0).2) (upd (mT ((h_X7_refused M 0).2)) (zz M) ch)) ((mZ (oT ((h_X7_refused M 0).2) (upd (mT ((h_X7_refused M 0).2)) (zz M) ch))) + 1)))
set_option maxHeartbeats 4000000 in
set_option maxRecDepth 100000 in
theorem c_X7_append (l : Launch) (G : GG) (b : Nat) (M : Mo) (ch : Int32) (hmz : mZ M = nI (zz M)) (hmz120 : zz M ≤ 120) : Met l yX7_append wsX7_append ({ frames := 1, cells := 0, slots := 0, locals := 25 }) (PcH G [.ref b, .int ch] (Md G b M)) (QM (some (.int ((h_X7_append M ch).1))) (Md G b ((h_X7_append M ch).2)) (blk b (b + 8))) 0 0 (blk b (b + 8)) := by
  refine metH (cc := cX7_append) (maxL := 2) (ret := (some .int)) (by decide) rfl ?_
  intro p e s m below meth cd hx hb hr hml hown hts hlocks hP hO
  have hin7 : ∀ w ∈ u_ws RX7 TX7 12, w ∈ wsX7_append := by decide +kernel
  have hf_7 := hts (.fieldLink RX7 7 "CurbCarsModel" "text" "[I") (by decide +kernel)
  have hf_134 := hts (.fieldLink RX7 134 "CurbCarsModel" "size" "I") (by decide +kernel)
  have hA : ∀ q, (blk b (b + 8)) q → (blk b (b + 8)) q := fun _ h => h
  have hS : va_S (blk b (b + 8)) s.heap s.heap [] := va_S.rf
  have hl := lv_entry ([.ref b, .int ch]) (n := 2) (Nat.le_of_ble_eq_true rfl)
  rw [lg_entry_eq]
  generalize (lg_sl ([.ref b, .int ch]) ++ List.replicate (2 - (lg_sl ([.ref b, .int ch])).length) Slot.unset).toArray = ls at hl ⊢
  have hl : lv_has ls 2 [(0, .ref b), (1, .int ch)] := hl
  refine lv_aload_n hx hb dX7_append_0 rfl (lv_at hl 0 rfl) ?_
  refine lv_iload_n hx hb dX7_append_1 rfl (lv_at hl 1 rfl) ?_
  refine lv_i2l (v := ch.toInt64) hx hb dX7_append_2 rfl ?_
  refine lv_lconst (v := 0) hx hb dX7_append_3 (by decide) ?_
  refine lv_ldc2 (v := 255) hx hb hown (hts (.constantLong RX7 132 (255)) (by decide +kernel)) dX7_append_4 ?_
  refine cl_pi (rS (As := [.long ch.toInt64, .long 0, .long 255]) (rest := [.ref b]) ⟨hx, hb, hml, hown, hts⟩ (c_X7_in l G ch.toInt64 0 255) (va_cwS 3 hts gX7_append_X7_in rfl rfl rfl (by decide +kernel) ⟨Nat.le_of_ble_eq_true rfl, Nat.le_of_ble_eq_true rfl⟩) trivial hO rfl hl.1 (Nat.le_of_ble_eq_true rfl) dX7_append_7 ⟨Nat.le_of_ble_eq_true rfl, Nat.le_of_ble_eq_true rfl⟩) ?_
  refine lv_if_ne (tgt := 17) hx hb dX7_append_10 (by decide) (fun c_1 => ?_) (fun c_1 => ?_)
  · refine lv_aload_n hx hb dX7_append_17 rfl (lv_at hl 0 rfl) ?_
    refine va_get (D := G.1) (ci := 5) (v := .int (mZ M)) (C := RX7) (T := TX7) (N := 12) hx hb hts hin7 hown hO.1 hP 0 rfl rfl 2 (by decide) hf_134 (fun _ h9 => h9) rfl dX7_append_18 ?_
    refine lv_bipush (v := 120) hx hb dX7_append_21 (by decide) ?_
    refine lv_icmp_ne (tgt := 30) hx hb dX7_append_23 (by decide) (fun c_2 => ?_) (fun c_2 => ?_)
    · refine lv_iconst (v := 0) hx hb dX7_append_30 (by decide) ?_
      refine cl_mi (rV (As := [.int 0]) (rest := []) ⟨hx, hb, hml, hown, hts⟩ (c_X7_refused l G b M 0) (cwV 1 hts gX7_append_X7_refused rfl rfl rfl (by decide +kernel) ⟨Nat.le_of_ble_eq_true rfl, Nat.le_of_ble_eq_true rfl⟩) (md_recv hO hP) hP hO rfl hl.1 (Nat.le_of_ble_eq_true rfl) dX7_append_31 ⟨Nat.le_of_ble_eq_true rfl, Nat.le_of_ble_eq_true rfl⟩) hS hA (fun H locs hP1 hz hk hS => ?_)
      have hP : Md G b ((h_X7_refused M 0).2) H := hP1
      refine lv_if_eq (tgt := 39) hx hb dX7_append_34 (by decide) (fun c_3 => ?_) (fun c_3 => ?_)
      · refine lv_aload_n hx hb dX7_append_39 rfl (lv_at hl 0 rfl) ?_
        refine va_get (D := G.1) (ci := 5) (v := .ref (b + 1)) (C := RX7) (T := TX7) (N := 12) hx hb hts hin7 hown hO.1 hP 0 rfl rfl 1 (by decide) hf_7 (fun _ h9 => h9) rfl dX7_append_40 ?_
        refine lv_aload_n hx hb dX7_append_43 rfl (lv_at hl 0 rfl) ?_
        refine va_get (D := G.1) (ci := 5) (v := .int (mZ ((h_X7_refused M 0).2))) (C := RX7) (T := TX7) (N := 12) hx hb hts hin7 hown hO.1 hP 0 rfl rfl 2 (by decide) hf_134 (fun _ h9 => h9) rfl dX7_append_44 ?_
        rw [(ref_Z M 0).trans hmz]
        refine lv_iload_n hx hb dX7_append_47 rfl (lv_at hl 1 rfl) ?_
        refine iast_n hx hb hO.1 hP (md_D b ((h_X7_refused M 0).2) hA) hS 1 0 rfl rfl (lt120 hmz hmz120 (by assumption)) (by decide) dX7_append_48 (fun H locs hP hD hS => ?_)
        have hP : Md G b (oT ((h_X7_refused M 0).2) (upd (mT ((h_X7_refused M 0).2)) (zz M) ch)) H := md_pT hP
        refine lv_aload_n hx hb dX7_append_49 rfl (lv_at hl 0 rfl) ?_
        refine lv_dup hx hb dX7_append_50 rfl ?_
        refine va_get (D := G.1) (ci := 5) (v := .int (mZ (oT ((h_X7_refused M 0).2) (upd (mT ((h_X7_refused M 0).2)) (zz M) ch)))) (C := RX7) (T := TX7) (N := 12) hx hb hts hin7 hown hO.1 hP 0 rfl rfl 2 (by decide) hf_134 (fun _ h9 => h9) rfl dX7_append_51 ?_
        refine lv_iconst (v := 1) hx hb dX7_append_54 (by decide) ?_
        refine lv_iadd hx hb dX7_append_55 ?_
        refine va_put (D := G.1) (ci := 5) (v := .int ((mZ (oT ((h_X7_refused M 0).2) (upd (mT ((h_X7_refused M 0).2)) (zz M) ch))) + 1)) (ty := .int) (C := RX7) (T := TX7) (N := 12) hx hb hts hin7 tyX7 tyX7_ok nmX7 hown hO.1 hP (md_D b (oT ((h_X7_refused M 0).2) (upd (mT ((h_X7_refused M 0).2)) (zz M) ch)) hA) hS 0 rfl rfl 2 (by decide) hf_134 (fun _ h9 => h9) rfl (by decide +kernel) rfl rfl (Nat.le_of_ble_eq_true rfl) dX7_append_56 (fun H locs hP hD hS => ?_)
        have hP : Md G b (oZ (oT ((h_X7_refused M 0).2) (upd (mT ((h_X7_refused M 0).2)) (zz M) ch)) ((mZ (oT ((h_X7_refused M 0).2) (upd (mT ((h_X7_refused M 0).2)) (zz M) ch))) + 1)) H := md_pZ hP
        refine lv_aload_n hx hb dX7_append_59 rfl (lv_at hl 0 rfl) ?_
        refine va_get (D := G.1) (ci := 5) (v := .int (mZ (oZ (oT ((h_X7_refused M 0).2) (upd (mT ((h_X7_refused M 0).2)) (zz M) ch)) ((mZ (oT ((h_X7_refused M 0).2) (upd (mT ((h_X7_refused M 0).2)) (zz M) ch))) + 1)))) (C := RX7) (T := TX7) (N := 12) hx hb hts hin7 hown hO.1 hP 0 rfl rfl 2 (by decide) hf_134 (fun _ h9 => h9) rfl dX7_append_60 ?_
        have hE : h_X7_append M ch = (mZ (oZ (oT ((h_X7_refused M 0).2) (upd (mT ((h_X7_refused M 0).2)) (zz M) ch)) ((mZ (oT ((h_X7_refused M 0).2) (upd (mT ((h_X7_refused M 0).2)) (zz M) ch))) + 1)), (oZ (oT ((h_X7_refused M 0).2) (upd (mT ((h_X7_refused M 0).2)) (zz M) ch)) ((mZ (oT ((h_X7_refused M 0).2) (upd (mT ((h_X7_refused M 0).2)) (zz M) ch))) + 1))) := (by rw [h_X7_append, if_neg c_1, if_neg c_2])
        have hE2 := snd_of hE
        exact W.iret hx hb hr (fun t ht hW => ⟨by rw [fst_of hE], by rw [ht, hE2]; exact hP, hS.F ht⟩) hS.2.2 dX7_append_63
      · exact absurd (ref_0 _) c_3
    · refine lv_iconst (v := 2) hx hb dX7_append_26 (by decide) ?_
      refine lv_goto (tgt := 31) hx hb dX7_append_27 (by decide) ?_
      refine cl_mi (rV (As := [.int 2]) (rest := []) ⟨hx, hb, hml, hown, hts⟩ (c_X7_refused l G b M 2) (cwV 1 hts gX7_append_X7_refused rfl rfl rfl (by decide +kernel) ⟨Nat.le_of_ble_eq_true rfl, Nat.le_of_ble_eq_true rfl⟩) (md_recv hO hP) hP hO rfl hl.1 (Nat.le_of_ble_eq_true rfl) dX7_append_31 ⟨Nat.le_of_ble_eq_true rfl, Nat.le_of_ble_eq_true rfl⟩) hS hA (fun H locs hP1 hz hk hS => ?_)
      have hP : Md G b ((h_X7_refused M 2).2) H := hP1
      refine lv_if_eq (tgt := 39) hx hb dX7_append_34 (by decide) (fun c_4 => ?_) (fun c_4 => ?_)
      · exact absurd c_4 (ref_p2 _)
      · refine lv_iconst (v := 0) hx hb dX7_append_37 (by decide) ?_
        have hE : h_X7_append M ch = (0, (h_X7_refused M 2).2) := (by rw [h_X7_append, if_neg c_1, if_pos c_2])
        have hE2 := snd_of hE
        exact W.iret hx hb hr (fun t ht hW => ⟨by rw [fst_of hE], by rw [ht, hE2]; exact hP, hS.F ht⟩) hS.2.2 dX7_append_38
  · refine lv_iconst (v := 1) hx hb dX7_append_13 (by decide) ?_
    refine lv_goto (tgt := 31) hx hb dX7_append_14 (by decide) ?_
    refine cl_mi (rV (As := [.int 1]) (rest := []) ⟨hx, hb, hml, hown, hts⟩ (c_X7_refused l G b M 1) (cwV 1 hts gX7_append_X7_refused rfl rfl rfl (by decide +kernel) ⟨Nat.le_of_ble_eq_true rfl, Nat.le_of_ble_eq_true rfl⟩) (md_recv hO hP) hP hO rfl hl.1 (Nat.le_of_ble_eq_true rfl) dX7_append_31 ⟨Nat.le_of_ble_eq_true rfl, Nat.le_of_ble_eq_true rfl⟩) hS hA (fun H locs hP1 hz hk hS => ?_)
    have hP : Md G b ((h_X7_refused M 1).2) H := hP1
    refine lv_if_eq (tgt := 39) hx hb dX7_append_34 (by decide) (fun c_5 => ?_) (fun c_5 => ?_)
    · exact absurd c_5 (ref_p1 _)
    · refine lv_iconst (v := 0) hx hb dX7_append_37 (by decide) ?_
      have hE : h_X7_append M ch = (0, (h_X7_refused M 1).2) := (by rw [h_X7_append, if_pos c_1])
      have hE2 := snd_of hE
      exact W.iret hx hb hr (fun t ht hW => ⟨by rw [fst_of hE], by rw [ht, hE2]; exact hP, hS.F ht⟩) hS.2.2 dX7_append_38

def h_X7_clearText (M : Mo) : Int32 × Mo :=
  (mZ (oA M 0), (oZ (oA M 0) 0))
set_option maxHeartbeats 4000000 in
set_option maxRecDepth 100000 in
theorem c_X7_clearText (l : Launch) (G : GG) (b : Nat) (M : Mo) : Met l yX7_clearText wsX7_clearText ({ frames := 0, cells := 0, slots := 0, locals := 0 }) (PcH G [.ref b] (Md G b M)) (QM (some (.int ((h_X7_clearText M).1))) (Md G b ((h_X7_clearText M).2)) (blk b (b + 8))) 0 0 (blk b (b + 8)) := by
  refine metH (cc := cX7_clearText) (maxL := 2) (ret := (some .int)) (by decide) rfl ?_
  intro p e s m below meth cd hx hb hr hml hown hts hlocks hP hO
  have hin7 : ∀ w ∈ u_ws RX7 TX7 12, w ∈ wsX7_clearText := by decide +kernel
  have hf_36 := hts (.fieldLink RX7 36 "CurbCarsModel" "refusal" "I") (by decide +kernel)
  have hf_134 := hts (.fieldLink RX7 134 "CurbCarsModel" "size" "I") (by decide +kernel)
  have hA : ∀ q, (blk b (b + 8)) q → (blk b (b + 8)) q := fun _ h => h
  have hS : va_S (blk b (b + 8)) s.heap s.heap [] := va_S.rf
  have hl := lv_entry ([.ref b]) (n := 2) (Nat.le_of_ble_eq_true rfl)
  rw [lg_entry_eq]
  generalize (lg_sl ([.ref b]) ++ List.replicate (2 - (lg_sl ([.ref b])).length) Slot.unset).toArray = ls at hl ⊢
  have hl : lv_has ls 2 [(0, .ref b)] := hl
  refine lv_aload_n hx hb dX7_clearText_0 rfl (lv_at hl 0 rfl) ?_
  refine lv_iconst (v := 0) hx hb dX7_clearText_1 (by decide) ?_
  refine va_put (D := G.1) (ci := 5) (v := .int 0) (ty := .int) (C := RX7) (T := TX7) (N := 12) hx hb hts hin7 tyX7 tyX7_ok nmX7 hown hO.1 hP (md_D b M hA) hS 0 rfl rfl 0 (by decide) hf_36 (fun _ h9 => h9) rfl (by decide +kernel) rfl rfl (Nat.le_of_ble_eq_true rfl) dX7_clearText_2 (fun H locs hP hD hS => ?_)
  have hP : Md G b (oA M 0) H := md_pA hP
  refine lv_aload_n hx hb dX7_clearText_5 rfl (lv_at hl 0 rfl) ?_
  refine va_get (D := G.1) (ci := 5) (v := .int (mZ (oA M 0))) (C := RX7) (T := TX7) (N := 12) hx hb hts hin7 hown hO.1 hP 0 rfl rfl 2 (by decide) hf_134 (fun _ h9 => h9) rfl dX7_clearText_6 ?_
  refine lv_istore_n (lv' := [(1, .int (mZ (oA M 0))), (0, .ref b)]) hx hb dX7_clearText_9 rfl hl (by decide) rfl (fun ls hl => ?_)
  refine lv_aload_n hx hb dX7_clearText_10 rfl (lv_at hl 1 rfl) ?_
  refine lv_iconst (v := 0) hx hb dX7_clearText_11 (by decide) ?_
  refine va_put (D := G.1) (ci := 5) (v := .int 0) (ty := .int) (C := RX7) (T := TX7) (N := 12) hx hb hts hin7 tyX7 tyX7_ok nmX7 hown hO.1 hP (md_D b (oA M 0) hA) hS 0 rfl rfl 2 (by decide) hf_134 (fun _ h9 => h9) rfl (by decide +kernel) rfl rfl (Nat.le_of_ble_eq_true rfl) dX7_clearText_12 (fun H locs hP hD hS => ?_)
  have hP : Md G b (oZ (oA M 0) 0) H := md_pZ hP
  refine lv_iload_n hx hb dX7_clearText_15 rfl (lv_at hl 0 rfl) ?_
  have hE : h_X7_clearText M = (mZ (oA M 0), (oZ (oA M 0) 0)) := (by rw [h_X7_clearText])
  have hE2 := snd_of hE
  exact W.iret hx hb hr (fun t ht hW => ⟨by rw [fst_of hE], by rw [ht, hE2]; exact hP, hS.F ht⟩) hS.2.2 dX7_clearText_16
