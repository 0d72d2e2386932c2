def f_X4_settingOf (S : St) (x : Int32) : Int32 :=
  if x = 0 then sU S else
  if x = 1 then sO S else
  if x = 2 then sE S else
  (-1)
set_option maxHeartbeats 4000000 in
set_option maxRecDepth 100000 in
theorem c_X4_settingOf (l : Launch) (G : GG) (a : Nat) (S : St) (x : Int32) : Met l yX4_settingOf wsX4_settingOf ({ frames := 0, cells := 0, slots := 0, locals := 0 }) (PcH G [.ref a, .int x] (Str G a S)) (QP (some (.int (f_X4_settingOf S x)))) 0 0 noA := by
  refine metH (cc := cX4_settingOf) (maxL := 2) (ret := (some .int)) (by decide) rfl ?_
  intro p e s m below meth cd hx hb hr hml hown hts hlocks hP hO
  have hin4 : ∀ w ∈ u_ws RX4 TX4 14, w ∈ wsX4_settingOf := by decide +kernel
  have hf_59 := hts (.fieldLink RX4 59 "CurbCars$Street" "rule" "I") (by decide +kernel)
  have hf_62 := hts (.fieldLink RX4 62 "CurbCars$Street" "room" "I") (by decide +kernel)
  have hf_65 := hts (.fieldLink RX4 65 "CurbCars$Street" "patience" "I") (by decide +kernel)
  have hS : va_S noA s.heap s.heap [] := va_S.rf
  have hl := lv_entry ([.ref a, .int x]) (n := 2) (Nat.le_of_ble_eq_true rfl)
  rw [lg_entry_eq]
  generalize (lg_sl ([.ref a, .int x]) ++ List.replicate (2 - (lg_sl ([.ref a, .int x])).length) Slot.unset).toArray = ls at hl ⊢
  have hl : lv_has ls 2 [(0, .ref a), (1, .int x)] := hl
  refine lv_iload_n hx hb dX4_settingOf_0 rfl (lv_at hl 1 rfl) ?_
  by_cases c_1 : x = 0
  · refine lv_tableIn (off := 27) (tgt := 28) hx hb dX4_settingOf_1 (by rw [c_1]; decide) (by rw [c_1]; decide) (by rw [c_1]; decide +kernel) (by decide) ?_
    refine lv_aload_n hx hb dX4_settingOf_28 rfl (lv_at hl 0 rfl) ?_
    refine va_get (D := G.1) (ci := 2) (v := .int (sU S)) (C := RX4) (T := TX4) (N := 14) hx hb hts hin4 hown hO.1 hP 0 rfl rfl 11 (by decide) hf_59 (fun _ h9 => h9) rfl dX4_settingOf_29 ?_
    have hE : f_X4_settingOf S x = sU S := (by rw [f_X4_settingOf, if_pos c_1])
    exact W.iret hx hb hr (fun t ht hW => ⟨by rw [hE], ht⟩) hS.2.2 dX4_settingOf_32
  by_cases c_2 : x = 1
  · refine lv_tableIn (off := 32) (tgt := 33) hx hb dX4_settingOf_1 (by rw [c_2]; decide) (by rw [c_2]; decide) (by rw [c_2]; decide +kernel) (by decide) ?_
    refine lv_aload_n hx hb dX4_settingOf_33 rfl (lv_at hl 0 rfl) ?_
    refine va_get (D := G.1) (ci := 2) (v := .int (sO S)) (C := RX4) (T := TX4) (N := 14) hx hb hts hin4 hown hO.1 hP 0 rfl rfl 12 (by decide) hf_62 (fun _ h9 => h9) rfl dX4_settingOf_34 ?_
    have hE : f_X4_settingOf S x = sO S := (by rw [f_X4_settingOf, if_neg c_1, if_pos c_2])
    exact W.iret hx hb hr (fun t ht hW => ⟨by rw [hE], ht⟩) hS.2.2 dX4_settingOf_37
  by_cases c_3 : x = 2
  · refine lv_tableIn (off := 37) (tgt := 38) hx hb dX4_settingOf_1 (by rw [c_3]; decide) (by rw [c_3]; decide) (by rw [c_3]; decide +kernel) (by decide) ?_
    refine lv_aload_n hx hb dX4_settingOf_38 rfl (lv_at hl 0 rfl) ?_
    refine va_get (D := G.1) (ci := 2) (v := .int (sE S)) (C := RX4) (T := TX4) (N := 14) hx hb hts hin4 hown hO.1 hP 0 rfl rfl 13 (by decide) hf_65 (fun _ h9 => h9) rfl dX4_settingOf_39 ?_
    have hE : f_X4_settingOf S x = sE S := (by rw [f_X4_settingOf, if_neg c_1, if_neg c_2, if_pos c_3])
    exact W.iret hx hb hr (fun t ht hW => ⟨by rw [hE], ht⟩) hS.2.2 dX4_settingOf_42
  refine lv_tableOut (tgt := 43) hx hb dX4_settingOf_1 (tab_3 c_1 c_2 c_3) (by decide) ?_
  refine lv_iconst (v := -1) hx hb dX4_settingOf_43 (by decide) ?_
  have hE : f_X4_settingOf S x = (-1) := (by rw [f_X4_settingOf, if_neg c_1, if_neg c_2, if_neg c_3])
  exact W.iret hx hb hr (fun t ht hW => ⟨by rw [hE], ht⟩) hS.2.2 dX4_settingOf_44

def f_X4_isFree (S : St) (x : Int32) : Int32 :=
  if (f_X6_isCell x) = 0 then 0 else
  if (f_X6_get 80 (sC S) x) = (-1) then 1 else
  0
set_option maxHeartbeats 4000000 in
set_option maxRecDepth 100000 in
theorem c_X4_isFree (l : Launch) (G : GG) (a : Nat) (S : St) (x : Int32) : Met l yX4_isFree wsX4_isFree ({ frames := 1, cells := 0, slots := 0, locals := 21 }) (PcH G [.ref a, .int x] (Str G a S)) (QP (some (.int (f_X4_isFree S x)))) 0 0 noA := by
  refine metH (cc := cX4_isFree) (maxL := 2) (ret := (some .boolean)) (by decide) rfl ?_
  intro p e s m below meth cd hx hb hr hml hown hts hlocks hP hO
  have hin4 : ∀ w ∈ u_ws RX4 TX4 14, w ∈ wsX4_isFree := by decide +kernel
  have hf_9 := hts (.fieldLink RX4 9 "CurbCars$Street" "cells" "[I") (by decide +kernel)
  have hS : va_S noA s.heap s.heap [] := va_S.rf
  have hl := lv_entry ([.ref a, .int x]) (n := 2) (Nat.le_of_ble_eq_true rfl)
  rw [lg_entry_eq]
  generalize (lg_sl ([.ref a, .int x]) ++ List.replicate (2 - (lg_sl ([.ref a, .int x])).length) Slot.unset).toArray = ls at hl ⊢
  have hl : lv_has ls 2 [(0, .ref a), (1, .int x)] := hl
  refine lv_iload_n hx hb dX4_isFree_0 rfl (lv_at hl 1 rfl) ?_
  refine cl_pi (rSN (As := [.int x]) (rest := []) ⟨hx, hb, hml, hown, hts⟩ (c_X6_isCell l G x) ⟨va_cnB 1 hts gX4_isFree_X6_isCell_n80 rfl rfl rfl (hO.2 _ (List.mem_of_getElem? (i := 28) rfl)) (hts (.initialized RX6) (by decide +kernel)) (by decide +kernel) ⟨Nat.le_of_ble_eq_true rfl, Nat.le_of_ble_eq_true rfl⟩, hts (.static yX6_isCell) (by decide +kernel), trivial⟩ trivial hO rfl hl.1 (Nat.le_of_ble_eq_true rfl) dX4_isFree_1 ⟨Nat.le_of_ble_eq_true rfl, Nat.le_of_ble_eq_true rfl⟩) ?_
  refine lv_if_eq (tgt := 23) hx hb dX4_isFree_4 (by decide) (fun c_1 => ?_) (fun c_1 => ?_)
  · refine lv_iconst (v := 0) hx hb dX4_isFree_23 (by decide) ?_
    have hE : f_X4_isFree S x = 0 := (by rw [f_X4_isFree, if_pos c_1])
    exact W.zret (ty := .boolean) hx hb hr rfl (fun t ht hW => ⟨by rw [hE], ht⟩) hS.2.2 dX4_isFree_24
  · refine lv_aload_n hx hb dX4_isFree_7 rfl (lv_at hl 0 rfl) ?_
    refine va_get (D := G.1) (ci := 2) (v := .ref (a + 1)) (C := RX4) (T := TX4) (N := 14) hx hb hts hin4 hown hO.1 hP 0 rfl rfl 0 (by decide) hf_9 (fun _ h9 => h9) rfl dX4_isFree_8 ?_
    refine lv_iload_n hx hb dX4_isFree_11 rfl (lv_at hl 1 rfl) ?_
    refine cl_pi (rSN (As := [.ref (a + 1), .int x]) (rest := []) ⟨hx, hb, hml, hown, hts⟩ (c_X6_get l G (a + 1) 80 (sC S) x (by decide)) ⟨va_cnB 2 hts gX4_isFree_X6_get_n84 rfl rfl rfl (hO.2 _ (List.mem_of_getElem? (i := 29) rfl)) (hts (.initialized RX6) (by decide +kernel)) (by decide +kernel) ⟨Nat.le_of_ble_eq_true rfl, Nat.le_of_ble_eq_true rfl⟩, hts (.static yX6_get) (by decide +kernel), trivial⟩ (va_P.sub hP [1] rfl) hO rfl hl.1 (Nat.le_of_ble_eq_true rfl) dX4_isFree_12 ⟨Nat.le_of_ble_eq_true rfl, Nat.le_of_ble_eq_true rfl⟩) ?_
    refine lv_iconst (v := -1) hx hb dX4_isFree_15 (by decide) ?_
    refine lv_icmp_ne (tgt := 23) hx hb dX4_isFree_16 (by decide) (fun c_2 => ?_) (fun c_2 => ?_)
    · refine lv_iconst (v := 0) hx hb dX4_isFree_23 (by decide) ?_
      have hE : f_X4_isFree S x = 0 := (by rw [f_X4_isFree, if_neg c_1, if_neg c_2])
      exact W.zret (ty := .boolean) hx hb hr rfl (fun t ht hW => ⟨by rw [hE], ht⟩) hS.2.2 dX4_isFree_24
    · refine lv_iconst (v := 1) hx hb dX4_isFree_19 (by decide) ?_
      refine lv_goto (tgt := 24) hx hb dX4_isFree_20 (by decide) ?_
      have hE : f_X4_isFree S x = 1 := (by rw [f_X4_isFree, if_neg c_1, if_pos c_2])
      exact W.zret (ty := .boolean) hx hb hr rfl (fun t ht hW => ⟨by rw [hE], ht⟩) hS.2.2 dX4_isFree_24

theorem b_f_X4_isFree (S : St) (x : Int32) : f_X4_isFree S x = 0 ∨ f_X4_isFree S x = 1 := by
  unfold f_X4_isFree
  repeat (first | exact Or.inl rfl | exact Or.inr rfl | split)

def lp_cellsWith (S : St) (mk : Int32) : Nat → Nat → Int32 → Int32
  | 0, _, _ => 0
  | n + 1, k, acc => if 80 ≤ (nI k) then acc else
    if ((sC S) k) = mk then lp_cellsWith S mk n (k + 1) (acc + 1) else
    lp_cellsWith S mk n (k + 1) acc
def f_X4_cellsWith (S : St) (mk : Int32) : Int32 :=
  lp_cellsWith S mk (80 + 1) 0 0
set_option maxHeartbeats 4000000 in
set_option maxRecDepth 100000 in
theorem c_X4_cellsWith (l : Launch) (G : GG) (a : Nat) (S : St) (mk : Int32) : Met l yX4_cellsWith wsX4_cellsWith ({ frames := 0, cells := 0, slots := 0, locals := 0 }) (PcH G [.ref a, .int mk] (Str G a S)) (QP (some (.int (f_X4_cellsWith S mk)))) 0 0 noA := by
  refine metH (cc := cX4_cellsWith) (maxL := 4) (ret := (some .int)) (by decide) rfl ?_
  intro p e s m below meth cd hx hb hr hml hown hts hlocks hP hO
  have hin4 : ∀ w ∈ u_ws RX4 TX4 14, w ∈ wsX4_cellsWith := by decide +kernel
  have hf_9 := hts (.fieldLink RX4 9 "CurbCars$Street" "cells" "[I") (by decide +kernel)
  have hS : va_S noA s.heap s.heap [] := va_S.rf
  have hl := lv_entry ([.ref a, .int mk]) (n := 4) (Nat.le_of_ble_eq_true rfl)
  rw [lg_entry_eq]
  generalize (lg_sl ([.ref a, .int mk]) ++ List.replicate (4 - (lg_sl ([.ref a, .int mk])).length) Slot.unset).toArray = ls at hl ⊢
  have hl : lv_has ls 4 [(0, .ref a), (1, .int mk)] := hl
  have loop4 : ∀ (n : Nat) (k : Nat) (acc : Int32) , k ≤ 80 → k + n = 80 + 1 → f_X4_cellsWith S mk = lp_cellsWith S mk n k acc → ∀ (ls : Array Slot), lv_has ls 4 [(0, .ref a), (1, .int mk), (2, .int acc), (3, .int (nI k))] → W p l e (headSpec wsX4_cellsWith ({ frames := 0, cells := 0, slots := 0, locals := 0 } : Room)).room s m ([.ref a, .int mk] : List Value).toArray below meth cd s.heap [] 0 0 (MQ below (QP (some (.int (f_X4_cellsWith S mk)))) ([.ref a, .int mk] : List Value).toArray s 0 0 noA) (F0 m 4 ls []) := by
    intro n
    induction n with
    | zero =>
      intro k acc hk hn hR ls hl
      exact absurd hn (by omega)
    | succ n ih =>
      intro k acc hk hn hR ls hl
      refine lv_iload_n hx hb dX4_cellsWith_4 rfl (lv_at hl 3 rfl) ?_
      refine lv_aload_n hx hb dX4_cellsWith_5 rfl (lv_at hl 0 rfl) ?_
      refine va_get (D := G.1) (ci := 2) (v := .ref (a + 1)) (C := RX4) (T := TX4) (N := 14) hx hb hts hin4 hown hO.1 hP 0 rfl rfl 0 (by decide) hf_9 (fun _ h9 => h9) rfl dX4_cellsWith_6 ?_
      refine va_alen (ty := .int) (v := 80) hx hb hO.1 hP 1 0 rfl rfl rfl dX4_cellsWith_9 ?_
      refine lv_icmp_ge (tgt := 32) hx hb dX4_cellsWith_10 (by decide) (fun c_1 => ?_) (fun c_1 => ?_)
      · refine lv_iload_n hx hb dX4_cellsWith_32 rfl (lv_at hl 2 rfl) ?_
        have hE : f_X4_cellsWith S mk = acc := (hR.trans (by rw [lp_cellsWith, if_pos c_1]))
        exact W.iret hx hb hr (fun t ht hW => ⟨by rw [hE], ht⟩) hS.2.2 dX4_cellsWith_33
      · have hlt : k < 80 := kN (B := 80) c_1 (by omega) (by omega)
        refine lv_aload_n hx hb dX4_cellsWith_13 rfl (lv_at hl 0 rfl) ?_
        refine va_get (D := G.1) (ci := 2) (v := .ref (a + 1)) (C := RX4) (T := TX4) (N := 14) hx hb hts hin4 hown hO.1 hP 0 rfl rfl 0 (by decide) hf_9 (fun _ h9 => h9) rfl dX4_cellsWith_14 ?_
        refine lv_iload_n hx hb dX4_cellsWith_17 rfl (lv_at hl 3 rfl) ?_
        refine iald_n hx hb hO.1 hP 1 0 rfl rfl (by omega) (by decide) dX4_cellsWith_18 ?_
        refine lv_iload_n hx hb dX4_cellsWith_19 rfl (lv_at hl 1 rfl) ?_
        refine lv_icmp_ne (tgt := 26) hx hb dX4_cellsWith_20 (by decide) (fun c_2 => ?_) (fun c_2 => ?_)
        · refine lv_iinc (v := nI (k + 1)) (lv' := [(3, .int (nI (k + 1))), (0, .ref a), (1, .int mk), (2, .int acc)]) hx hb dX4_cellsWith_26 hl (k := 3) rfl (nI_1 _) (by decide) rfl (fun ls hl => ?_)
          refine lv_goto (tgt := 4) hx hb dX4_cellsWith_29 (by decide) ?_
          have hE_3 : f_X4_cellsWith S mk = lp_cellsWith S mk n (k + 1) acc := (hR.trans (by rw [lp_cellsWith, if_neg c_1, if_neg c_2]))
          exact ih (k + 1) acc (by omega) (by omega) hE_3 _ (lv_sub hl [1, 2, 3, 0] rfl)
        · refine lv_iinc (v := acc + 1) (lv' := [(2, .int (acc + 1)), (0, .ref a), (1, .int mk), (3, .int (nI k))]) hx hb dX4_cellsWith_23 hl (k := 2) rfl rfl (by decide) rfl (fun ls hl => ?_)
          refine lv_iinc (v := nI (k + 1)) (lv' := [(3, .int (nI (k + 1))), (2, .int (acc + 1)), (0, .ref a), (1, .int mk)]) hx hb dX4_cellsWith_26 hl (k := 3) rfl (nI_1 _) (by decide) rfl (fun ls hl => ?_)
          refine lv_goto (tgt := 4) hx hb dX4_cellsWith_29 (by decide) ?_
          have hE_4 : f_X4_cellsWith S mk = lp_cellsWith S mk n (k + 1) (acc + 1) := (hR.trans (by rw [lp_cellsWith, if_neg c_1, if_pos c_2]))
          exact ih (k + 1) (acc + 1) (by omega) (by omega) hE_4 _ (lv_sub hl [2, 3, 1, 0] rfl)
  refine lv_iconst (v := 0) hx hb dX4_cellsWith_0 (by decide) ?_
  refine lv_istore_n (lv' := [(2, .int 0), (0, .ref a), (1, .int mk)]) hx hb dX4_cellsWith_1 rfl hl (by decide) rfl (fun ls hl => ?_)
  refine lv_iconst (v := 0) hx hb dX4_cellsWith_2 (by decide) ?_
  refine lv_istore_n (lv' := [(3, .int 0), (2, .int 0), (0, .ref a), (1, .int mk)]) hx hb dX4_cellsWith_3 rfl hl (by decide) rfl (fun ls hl => ?_)
  have hE_5 : f_X4_cellsWith S mk = lp_cellsWith S mk (80 + 1) 0 0 := (by rw [f_X4_cellsWith])
  exact loop4 (80 + 1) 0 0 (Nat.zero_le _) (by omega) hE_5 _ (lv_sub hl [2, 3, 1, 0] rfl)

def lp_findGaps  : Nat → Nat → Int32 → St → St
  | 0, _, _, S2 => S2
  | n + 1, k, st, S2 => if 80 ≤ (nI k) then S2 else
    if 80 ≤ (nI k) then S2 else
    if ((sC (wG S2 (upd (sG S2) k 0))) k) = (-1) then (if st < 0 then lp_findGaps n (k + 1) st (wG S2 (upd (sG S2) k 0)) else
      if 80 ≤ st then lp_findGaps n (k + 1) st (wG S2 (upd (sG S2) k 0)) else
      lp_findGaps n (k + 1) st (wG (wG S2 (upd (sG S2) k 0)) (upd (sG (wG S2 (upd (sG S2) k 0))) st.toNatClampNeg (((sG (wG S2 (upd (sG S2) k 0))) st.toNatClampNeg) + 1)))) else
    lp_findGaps n (k + 1) (nI (k + 1)) (wG S2 (upd (sG S2) k 0))
def h_X4_findGaps (S : St) : St :=
  lp_findGaps (80 + 1) 0 0 S
set_option maxHeartbeats 4000000 in
set_option maxRecDepth 100000 in
theorem c_X4_findGaps (l : Launch) (G : GG) (a : Nat) (S : St) : Met l yX4_findGaps wsX4_findGaps ({ frames := 0, cells := 0, slots := 0, locals := 0 }) (PcH G [.ref a] (Str G a S)) (QM none (Str G a (h_X4_findGaps S)) (blk a (a + 9))) 0 0 (blk a (a + 9)) := by
  refine metH (cc := cX4_findGaps) (maxL := 3) (ret := none) (by decide) rfl ?_
  intro p e s m below meth cd hx hb hr hml hown hts hlocks hP hO
  have hin4 : ∀ w ∈ u_ws RX4 TX4 14, w ∈ wsX4_findGaps := by decide +kernel
  have hf_9 := hts (.fieldLink RX4 9 "CurbCars$Street" "cells" "[I") (by decide +kernel)
  have hf_15 := hts (.fieldLink RX4 15 "CurbCars$Street" "gapSizes" "[I") (by decide +kernel)
  have hA : ∀ q, (blk a (a + 9)) q → (blk a (a + 9)) q := fun _ h => h
  have hS : va_S (blk a (a + 9)) s.heap s.heap [] := va_S.rf
  have hl := lv_entry ([.ref a]) (n := 3) (Nat.le_of_ble_eq_true rfl)
  rw [lg_entry_eq]
  generalize (lg_sl ([.ref a]) ++ List.replicate (3 - (lg_sl ([.ref a])).length) Slot.unset).toArray = ls at hl ⊢
  have hl : lv_has ls 3 [(0, .ref a)] := hl
  have loop4 : ∀ (n : Nat) (k : Nat) (st : Int32) (S2 : St), k ≤ 80 → k + n = 80 + 1 → h_X4_findGaps S = lp_findGaps  n k st S2 → ∀ (H : Heap) (locs : List Loc) (ls : Array Slot), Str G a S2 H → va_S (blk a (a + 9)) s.heap H locs → lv_has ls 3 [(0, .ref a), (1, .int st), (2, .int (nI k))] → W p l e (headSpec wsX4_findGaps ({ frames := 0, cells := 0, slots := 0, locals := 0 } : Room)).room s m ([.ref a] : List Value).toArray below meth cd H locs 0 0 (MQ below (QM none (Str G a (h_X4_findGaps S)) (blk a (a + 9))) ([.ref a] : List Value).toArray s 0 0 (blk a (a + 9))) (F0 m 4 ls []) := by
    intro n
    induction n with
    | zero =>
      intro k st S2 hk hn hR H locs ls hP hS hl
      exact absurd hn (by omega)
    | succ n ih =>
      intro k st S2 hk hn hR H locs ls hP hS hl
      refine lv_iload_n hx hb dX4_findGaps_4 rfl (lv_at hl 2 rfl) ?_
      refine lv_aload_n hx hb dX4_findGaps_5 rfl (lv_at hl 0 rfl) ?_
      refine va_get (D := G.1) (ci := 2) (v := .ref (a + 1)) (C := RX4) (T := TX4) (N := 14) hx hb hts hin4 hown hO.1 hP 0 rfl rfl 0 (by decide) hf_9 (fun _ h9 => h9) rfl dX4_findGaps_6 ?_
      refine va_alen (ty := .int) (v := 80) hx hb hO.1 hP 1 0 rfl rfl rfl dX4_findGaps_9 ?_
      refine lv_icmp_ge (tgt := 75) hx hb dX4_findGaps_10 (by decide) (fun c_1 => ?_) (fun c_1 => ?_)
      · have hE : h_X4_findGaps S = S2 := (hR.trans (by rw [lp_findGaps, if_pos c_1]))
        exact W.vret hx hb hr (fun t ht hW => ⟨rfl, by rw [ht, hE]; exact hP, hS.F ht⟩) hS.2.2 dX4_findGaps_75
      · have hlt : k < 80 := kN (B := 80) c_1 (by omega) (by omega)
        refine lv_iload_n hx hb dX4_findGaps_13 rfl (lv_at hl 2 rfl) ?_
        refine lv_aload_n hx hb dX4_findGaps_14 rfl (lv_at hl 0 rfl) ?_
        refine va_get (D := G.1) (ci := 2) (v := .ref (a + 2)) (C := RX4) (T := TX4) (N := 14) hx hb hts hin4 hown hO.1 hP 0 rfl rfl 1 (by decide) hf_15 (fun _ h9 => h9) rfl dX4_findGaps_15 ?_
        refine va_alen (ty := .int) (v := 80) hx hb hO.1 hP 2 0 rfl rfl rfl dX4_findGaps_18 ?_
        refine lv_icmp_ge (tgt := 75) hx hb dX4_findGaps_19 (by decide) (fun c_2 => ?_) (fun c_2 => ?_)
        · have hE : h_X4_findGaps S = S2 := (hR.trans (by rw [lp_findGaps, if_neg c_1, if_pos c_2]))
          exact W.vret hx hb hr (fun t ht hW => ⟨rfl, by rw [ht, hE]; exact hP, hS.F ht⟩) hS.2.2 dX4_findGaps_75
        · refine lv_aload_n hx hb dX4_findGaps_22 rfl (lv_at hl 0 rfl) ?_
          refine va_get (D := G.1) (ci := 2) (v := .ref (a + 2)) (C := RX4) (T := TX4) (N := 14) hx hb hts hin4 hown hO.1 hP 0 rfl rfl 1 (by decide) hf_15 (fun _ h9 => h9) rfl dX4_findGaps_23 ?_
          refine lv_iload_n hx hb dX4_findGaps_26 rfl (lv_at hl 2 rfl) ?_
          refine lv_iconst (v := 0) hx hb dX4_findGaps_27 (by decide) ?_
          refine iast_n hx hb hO.1 hP (st_D a S2 hA) hS 2 0 rfl rfl (by omega) (by decide) dX4_findGaps_28 (fun H locs hP hD hS => ?_)
          have hP : Str G a (wG S2 (upd (sG S2) k 0)) H := st_pG hP
          refine lv_aload_n hx hb dX4_findGaps_29 rfl (lv_at hl 0 rfl) ?_
          refine va_get (D := G.1) (ci := 2) (v := .ref (a + 1)) (C := RX4) (T := TX4) (N := 14) hx hb hts hin4 hown hO.1 hP 0 rfl rfl 0 (by decide) hf_9 (fun _ h9 => h9) rfl dX4_findGaps_30 ?_
          refine lv_iload_n hx hb dX4_findGaps_33 rfl (lv_at hl 2 rfl) ?_
          refine iald_n hx hb hO.1 hP 1 0 rfl rfl (by omega) (by decide) dX4_findGaps_34 ?_
          refine lv_iconst (v := -1) hx hb dX4_findGaps_35 (by decide) ?_
          refine lv_icmp_eq (tgt := 46) hx hb dX4_findGaps_36 (by decide) (fun c_3 => ?_) (fun c_3 => ?_)
          · refine lv_iload_n hx hb dX4_findGaps_46 rfl (lv_at hl 1 rfl) ?_
            refine lv_if_lt (tgt := 69) hx hb dX4_findGaps_47 (by decide) (fun c_4 => ?_) (fun c_4 => ?_)
            · refine lv_iinc (v := nI (k + 1)) (lv' := [(2, .int (nI (k + 1))), (0, .ref a), (1, .int st)]) hx hb dX4_findGaps_69 hl (k := 2) rfl (nI_1 _) (by decide) rfl (fun ls hl => ?_)
              refine lv_goto (tgt := 4) hx hb dX4_findGaps_72 (by decide) ?_
              have hE_5 : h_X4_findGaps S = lp_findGaps n (k + 1) st (wG S2 (upd (sG S2) k 0)) := (hR.trans (by rw [lp_findGaps, if_neg c_1, if_neg c_2, if_pos c_3, if_pos c_4]))
              exact ih (k + 1) st (wG S2 (upd (sG S2) k 0)) (by omega) (by omega) hE_5 _ _ _ hP hS (lv_sub hl [1, 2, 0] rfl)
            · refine lv_iload_n hx hb dX4_findGaps_50 rfl (lv_at hl 1 rfl) ?_
              refine lv_aload_n hx hb dX4_findGaps_51 rfl (lv_at hl 0 rfl) ?_
              refine va_get (D := G.1) (ci := 2) (v := .ref (a + 2)) (C := RX4) (T := TX4) (N := 14) hx hb hts hin4 hown hO.1 hP 0 rfl rfl 1 (by decide) hf_15 (fun _ h9 => h9) rfl dX4_findGaps_52 ?_
              refine va_alen (ty := .int) (v := 80) hx hb hO.1 hP 2 0 rfl rfl rfl dX4_findGaps_55 ?_
              refine lv_icmp_ge (tgt := 69) hx hb dX4_findGaps_56 (by decide) (fun c_6 => ?_) (fun c_6 => ?_)
              · refine lv_iinc (v := nI (k + 1)) (lv' := [(2, .int (nI (k + 1))), (0, .ref a), (1, .int st)]) hx hb dX4_findGaps_69 hl (k := 2) rfl (nI_1 _) (by decide) rfl (fun ls hl => ?_)
                refine lv_goto (tgt := 4) hx hb dX4_findGaps_72 (by decide) ?_
                have hE_7 : h_X4_findGaps S = lp_findGaps n (k + 1) st (wG S2 (upd (sG S2) k 0)) := (hR.trans (by rw [lp_findGaps, if_neg c_1, if_neg c_2, if_pos c_3, if_neg c_4, if_pos c_6]))
                exact ih (k + 1) st (wG S2 (upd (sG S2) k 0)) (by omega) (by omega) hE_7 _ _ _ hP hS (lv_sub hl [1, 2, 0] rfl)
              · refine lv_aload_n hx hb dX4_findGaps_59 rfl (lv_at hl 0 rfl) ?_
                refine va_get (D := G.1) (ci := 2) (v := .ref (a + 2)) (C := RX4) (T := TX4) (N := 14) hx hb hts hin4 hown hO.1 hP 0 rfl rfl 1 (by decide) hf_15 (fun _ h9 => h9) rfl dX4_findGaps_60 ?_
                refine lv_iload_n hx hb dX4_findGaps_63 rfl (lv_at hl 1 rfl) ?_
                refine lv_dup2_11 hx hb dX4_findGaps_64 rfl rfl ?_
                refine va_iald hx hb hO.1 hP 2 0 rfl rfl (by first | exact in_of (by assumption) (by assumption) (by decide) | exact in_ofl (by assumption) (by assumption) (by decide)) dX4_findGaps_65 ?_
                refine lv_iconst (v := 1) hx hb dX4_findGaps_66 (by decide) ?_
                refine lv_iadd hx hb dX4_findGaps_67 ?_
                refine va_iast hx hb hO.1 hP (st_D a (wG S2 (upd (sG S2) k 0)) hA) hS 2 0 rfl rfl (by first | exact in_of (by assumption) (by assumption) (by decide) | exact in_ofl (by assumption) (by assumption) (by decide)) dX4_findGaps_68 (fun H locs hP hD hS => ?_)
                have hP : Str G a (wG (wG S2 (upd (sG S2) k 0)) (upd (sG (wG S2 (upd (sG S2) k 0))) st.toNatClampNeg (((sG (wG S2 (upd (sG S2) k 0))) st.toNatClampNeg) + 1))) H := st_pG hP
                refine lv_iinc (v := nI (k + 1)) (lv' := [(2, .int (nI (k + 1))), (0, .ref a), (1, .int st)]) hx hb dX4_findGaps_69 hl (k := 2) rfl (nI_1 _) (by decide) rfl (fun ls hl => ?_)
                refine lv_goto (tgt := 4) hx hb dX4_findGaps_72 (by decide) ?_
                have hE_8 : h_X4_findGaps S = lp_findGaps n (k + 1) st (wG (wG S2 (upd (sG S2) k 0)) (upd (sG (wG S2 (upd (sG S2) k 0))) st.toNatClampNeg (((sG (wG S2 (upd (sG S2) k 0))) st.toNatClampNeg) + 1))) := (hR.trans (by rw [lp_findGaps, if_neg c_1, if_neg c_2, if_pos c_3, if_neg c_4, if_neg c_6]))
                exact ih (k + 1) st (wG (wG S2 (upd (sG S2) k 0)) (upd (sG (wG S2 (upd (sG S2) k 0))) st.toNatClampNeg (((sG (wG S2 (upd (sG S2) k 0))) st.toNatClampNeg) + 1))) (by omega) (by omega) hE_8 _ _ _ hP hS (lv_sub hl [1, 2, 0] rfl)
          · refine lv_iload_n hx hb dX4_findGaps_39 rfl (lv_at hl 2 rfl) ?_
            refine lv_iconst (v := 1) hx hb dX4_findGaps_40 (by decide) ?_
            refine iadd_n (a := k) (b := 1) hx hb dX4_findGaps_41 ?_
            refine lv_istore_n (lv' := [(1, .int (nI (k + 1))), (0, .ref a), (2, .int (nI k))]) hx hb dX4_findGaps_42 rfl hl (by decide) rfl (fun ls hl => ?_)
            refine lv_goto (tgt := 69) hx hb dX4_findGaps_43 (by decide) ?_
            refine lv_iinc (v := nI (k + 1)) (lv' := [(2, .int (nI (k + 1))), (1, .int (nI (k + 1))), (0, .ref a)]) hx hb dX4_findGaps_69 hl (k := 2) rfl (nI_1 _) (by decide) rfl (fun ls hl => ?_)
            refine lv_goto (tgt := 4) hx hb dX4_findGaps_72 (by decide) ?_
            have hE_9 : h_X4_findGaps S = lp_findGaps n (k + 1) (nI (k + 1)) (wG S2 (upd (sG S2) k 0)) := (hR.trans (by rw [lp_findGaps, if_neg c_1, if_neg c_2, if_neg c_3]))
            exact ih (k + 1) (nI (k + 1)) (wG S2 (upd (sG S2) k 0)) (by omega) (by omega) hE_9 _ _ _ hP hS (lv_sub hl [2, 1, 0] rfl)
  refine lv_iconst (v := 0) hx hb dX4_findGaps_0 (by decide) ?_
  refine lv_istore_n (lv' := [(1, .int 0), (0, .ref a)]) hx hb dX4_findGaps_1 rfl hl (by decide) rfl (fun ls hl => ?_)
  refine lv_iconst (v := 0) hx hb dX4_findGaps_2 (by decide) ?_
  refine lv_istore_n (lv' := [(2, .int 0), (1, .int 0), (0, .ref a)]) hx hb dX4_findGaps_3 rfl hl (by decide) rfl (fun ls hl => ?_)
  have hE_10 : h_X4_findGaps S = lp_findGaps (80 + 1) 0 0 S := (by rw [h_X4_findGaps])
  exact loop4 (80 + 1) 0 0 S (Nat.zero_le _) (by omega) hE_10 _ _ _ hP hS (lv_sub hl [2, 1, 0] rfl)

def lp_gapStart (S : St) (g : Int32) : Nat → Nat → Int32 → Int32
  | 0, _, _ => 0
  | n + 1, k, acc => if 80 ≤ (nI k) then (-1) else
    if ((sG S) k) ≤ 0 then lp_gapStart S g n (k + 1) acc else
    if acc = g then nI k else
    lp_gapStart S g n (k + 1) (acc + 1)
def f_X4_gapStart (S : St) (g : Int32) : Int32 :=
  lp_gapStart S g (80 + 1) 0 0
set_option maxHeartbeats 4000000 in
set_option maxRecDepth 100000 in
theorem c_X4_gapStart (l : Launch) (G : GG) (a : Nat) (S : St) (g : Int32) : Met l yX4_gapStart wsX4_gapStart ({ frames := 0, cells := 0, slots := 0, locals := 0 }) (PcH G [.ref a, .int g] (Str G a S)) (QP (some (.int (f_X4_gapStart S g)))) 0 0 noA := by
  refine metH (cc := cX4_gapStart) (maxL := 4) (ret := (some .int)) (by decide) rfl ?_
  intro p e s m below meth cd hx hb hr hml hown hts hlocks hP hO
  have hin4 : ∀ w ∈ u_ws RX4 TX4 14, w ∈ wsX4_gapStart := by decide +kernel
  have hf_15 := hts (.fieldLink RX4 15 "CurbCars$Street" "gapSizes" "[I") (by decide +kernel)
  have hS : va_S noA s.heap s.heap [] := va_S.rf
  have hl := lv_entry ([.ref a, .int g]) (n := 4) (Nat.le_of_ble_eq_true rfl)
  rw [lg_entry_eq]
  generalize (lg_sl ([.ref a, .int g]) ++ List.replicate (4 - (lg_sl ([.ref a, .int g])).length) Slot.unset).toArray = ls at hl ⊢
  have hl : lv_has ls 4 [(0, .ref a), (1, .int g)] := hl
  have loop4 : ∀ (n : Nat) (k : Nat) (acc : Int32) , k ≤ 80 → k + n = 80 + 1 → f_X4_gapStart S g = lp_gapStart S g n k acc → ∀ (ls : Array Slot), lv_has ls 4 [(0, .ref a), (1, .int g), (2, .int acc), (3, .int (nI k))] → W p l e (headSpec wsX4_gapStart ({ frames := 0, cells := 0, slots := 0, locals := 0 } : Room)).room s m ([.ref a, .int g] : List Value).toArray below meth cd s.heap [] 0 0 (MQ below (QP (some (.int (f_X4_gapStart S g)))) ([.ref a, .int g] : List Value).toArray s 0 0 noA) (F0 m 4 ls []) := by
    intro n
    induction n with
    | zero =>
      intro k acc hk hn hR ls hl
      exact absurd hn (by omega)
    | succ n ih =>
      intro k acc hk hn hR ls hl
      refine lv_iload_n hx hb dX4_gapStart_4 rfl (lv_at hl 3 rfl) ?_
      refine lv_aload_n hx hb dX4_gapStart_5 rfl (lv_at hl 0 rfl) ?_
      refine va_get (D := G.1) (ci := 2) (v := .ref (a + 2)) (C := RX4) (T := TX4) (N := 14) hx hb hts hin4 hown hO.1 hP 0 rfl rfl 1 (by decide) hf_15 (fun _ h9 => h9) rfl dX4_gapStart_6 ?_
      refine va_alen (ty := .int) (v := 80) hx hb hO.1 hP 2 0 rfl rfl rfl dX4_gapStart_9 ?_
      refine lv_icmp_ge (tgt := 38) hx hb dX4_gapStart_10 (by decide) (fun c_1 => ?_) (fun c_1 => ?_)
      · refine lv_iconst (v := -1) hx hb dX4_gapStart_38 (by decide) ?_
        have hE : f_X4_gapStart S g = (-1) := (hR.trans (by rw [lp_gapStart, if_pos c_1]))
        exact W.iret hx hb hr (fun t ht hW => ⟨by rw [hE], ht⟩) hS.2.2 dX4_gapStart_39
      · have hlt : k < 80 := kN (B := 80) c_1 (by omega) (by omega)
        refine lv_aload_n hx hb dX4_gapStart_13 rfl (lv_at hl 0 rfl) ?_
        refine va_get (D := G.1) (ci := 2) (v := .ref (a + 2)) (C := RX4) (T := TX4) (N := 14) hx hb hts hin4 hown hO.1 hP 0 rfl rfl 1 (by decide) hf_15 (fun _ h9 => h9) rfl dX4_gapStart_14 ?_
        refine lv_iload_n hx hb dX4_gapStart_17 rfl (lv_at hl 3 rfl) ?_
        refine iald_n hx hb hO.1 hP 2 0 rfl rfl (by omega) (by decide) dX4_gapStart_18 ?_
        refine lv_if_le (tgt := 32) hx hb dX4_gapStart_19 (by decide) (fun c_2 => ?_) (fun c_2 => ?_)
        · refine lv_iinc (v := nI (k + 1)) (lv' := [(3, .int (nI (k + 1))), (0, .ref a), (1, .int g), (2, .int acc)]) hx hb dX4_gapStart_32 hl (k := 3) rfl (nI_1 _) (by decide) rfl (fun ls hl => ?_)
          refine lv_goto (tgt := 4) hx hb dX4_gapStart_35 (by decide) ?_
          have hE_3 : f_X4_gapStart S g = lp_gapStart S g n (k + 1) acc := (hR.trans (by rw [lp_gapStart, if_neg c_1, if_pos c_2]))
          exact ih (k + 1) acc (by omega) (by omega) hE_3 _ (lv_sub hl [1, 2, 3, 0] rfl)
        · refine lv_iload_n hx hb dX4_gapStart_22 rfl (lv_at hl 2 rfl) ?_
          refine lv_iload_n hx hb dX4_gapStart_23 rfl (lv_at hl 1 rfl) ?_
          refine lv_icmp_ne (tgt := 29) hx hb dX4_gapStart_24 (by decide) (fun c_4 => ?_) (fun c_4 => ?_)
          · refine lv_iinc (v := acc + 1) (lv' := [(2, .int (acc + 1)), (0, .ref a), (1, .int g), (3, .int (nI k))]) hx hb dX4_gapStart_29 hl (k := 2) rfl rfl (by decide) rfl (fun ls hl => ?_)
            refine lv_iinc (v := nI (k + 1)) (lv' := [(3, .int (nI (k + 1))), (2, .int (acc + 1)), (0, .ref a), (1, .int g)]) hx hb dX4_gapStart_32 hl (k := 3) rfl (nI_1 _) (by decide) rfl (fun ls hl => ?_)
            refine lv_goto (tgt := 4) hx hb dX4_gapStart_35 (by decide) ?_
            have hE_5 : f_X4_gapStart S g = lp_gapStart S g n (k + 1) (acc + 1) := (hR.trans (by rw [lp_gapStart, if_neg c_1, if_neg c_2, if_neg c_4]))
            exact ih (k + 1) (acc + 1) (by omega) (by omega) hE_5 _ (lv_sub hl [2, 3, 1, 0] rfl)
          · refine lv_iload_n hx hb dX4_gapStart_27 rfl (lv_at hl 3 rfl) ?_
            have hE : f_X4_gapStart S g = nI k := (hR.trans (by rw [lp_gapStart, if_neg c_1, if_neg c_2, if_pos c_4]))
            exact W.iret hx hb hr (fun t ht hW => ⟨by rw [hE], ht⟩) hS.2.2 dX4_gapStart_28
  refine lv_iconst (v := 0) hx hb dX4_gapStart_0 (by decide) ?_
  refine lv_istore_n (lv' := [(2, .int 0), (0, .ref a), (1, .int g)]) hx hb dX4_gapStart_1 rfl hl (by decide) rfl (fun ls hl => ?_)
  refine lv_iconst (v := 0) hx hb dX4_gapStart_2 (by decide) ?_
  refine lv_istore_n (lv' := [(3, .int 0), (2, .int 0), (0, .ref a), (1, .int g)]) hx hb dX4_gapStart_3 rfl hl (by decide) rfl (fun ls hl => ?_)
  have hE_6 : f_X4_gapStart S g = lp_gapStart S g (80 + 1) 0 0 := (by rw [f_X4_gapStart])
  exact loop4 (80 + 1) 0 0 (Nat.zero_le _) (by omega) hE_6 _ (lv_sub hl [2, 3, 1, 0] rfl)

def lp_shortest (S : St) (len : Int32) : Nat → Nat → Int32 → Int32 → Int32
  | 0, _, _, _ => 0
  | n + 1, k, best, size => if 80 ≤ (nI k) then best else
    if ((sG S) k) < (len + (sO S)) then lp_shortest S len n (k + 1) best size else
    if size ≤ ((sG S) k) then lp_shortest S len n (k + 1) best size else
    lp_shortest S len n (k + 1) (nI k) ((sG S) k)
def f_X4_shortestGapFor (S : St) (len : Int32) : Int32 :=
  lp_shortest S len (80 + 1) 0 (-1) 81
set_option maxHeartbeats 4000000 in
set_option maxRecDepth 100000 in
theorem c_X4_shortestGapFor (l : Launch) (G : GG) (a : Nat) (S : St) (len : Int32) : Met l yX4_shortestGapFor wsX4_shortestGapFor ({ frames := 0, cells := 0, slots := 0, locals := 0 }) (PcH G [.ref a, .int len] (Str G a S)) (QP (some (.int (f_X4_shortestGapFor S len)))) 0 0 noA := by
  refine metH (cc := cX4_shortestGapFor) (maxL := 5) (ret := (some .int)) (by decide) rfl ?_
  intro p e s m below meth cd hx hb hr hml hown hts hlocks hP hO
  have hin4 : ∀ w ∈ u_ws RX4 TX4 14, w ∈ wsX4_shortestGapFor := by decide +kernel
  have hf_15 := hts (.fieldLink RX4 15 "CurbCars$Street" "gapSizes" "[I") (by decide +kernel)
  have hf_62 := hts (.fieldLink RX4 62 "CurbCars$Street" "room" "I") (by decide +kernel)
  have hS : va_S noA s.heap s.heap [] := va_S.rf
  have hl := lv_entry ([.ref a, .int len]) (n := 5) (Nat.le_of_ble_eq_true rfl)
  rw [lg_entry_eq]
  generalize (lg_sl ([.ref a, .int len]) ++ List.replicate (5 - (lg_sl ([.ref a, .int len])).length) Slot.unset).toArray = ls at hl ⊢
  have hl : lv_has ls 5 [(0, .ref a), (1, .int len)] := hl
  have loop8 : ∀ (n : Nat) (k : Nat) (best : Int32) (size : Int32) , k ≤ 80 → k + n = 80 + 1 → f_X4_shortestGapFor S len = lp_shortest S len n k best size → ∀ (ls : Array Slot), lv_has ls 5 [(0, .ref a), (1, .int len), (2, .int best), (3, .int size), (4, .int (nI k))] → W p l e (headSpec wsX4_shortestGapFor ({ frames := 0, cells := 0, slots := 0, locals := 0 } : Room)).room s m ([.ref a, .int len] : List Value).toArray below meth cd s.heap [] 0 0 (MQ below (QP (some (.int (f_X4_shortestGapFor S len)))) ([.ref a, .int len] : List Value).toArray s 0 0 noA) (F0 m 8 ls []) := by
    intro n
    induction n with
    | zero =>
      intro k best size hk hn hR ls hl
      exact absurd hn (by omega)
    | succ n ih =>
      intro k best size hk hn hR ls hl
      refine lv_iload hx hb dX4_shortestGapFor_8 (lv_at hl 4 rfl) ?_
      refine lv_aload_n hx hb dX4_shortestGapFor_10 rfl (lv_at hl 0 rfl) ?_
      refine va_get (D := G.1) (ci := 2) (v := .ref (a + 2)) (C := RX4) (T := TX4) (N := 14) hx hb hts hin4 hown hO.1 hP 0 rfl rfl 1 (by decide) hf_15 (fun _ h9 => h9) rfl dX4_shortestGapFor_11 ?_
      refine va_alen (ty := .int) (v := 80) hx hb hO.1 hP 2 0 rfl rfl rfl dX4_shortestGapFor_14 ?_
      refine lv_icmp_ge (tgt := 62) hx hb dX4_shortestGapFor_15 (by decide) (fun c_1 => ?_) (fun c_1 => ?_)
      · refine lv_iload_n hx hb dX4_shortestGapFor_62 rfl (lv_at hl 2 rfl) ?_
        have hE : f_X4_shortestGapFor S len = best := (hR.trans (by rw [lp_shortest, if_pos c_1]))
        exact W.iret hx hb hr (fun t ht hW => ⟨by rw [hE], ht⟩) hS.2.2 dX4_shortestGapFor_63
      · have hlt : k < 80 := kN (B := 80) c_1 (by omega) (by omega)
        refine lv_aload_n hx hb dX4_shortestGapFor_18 rfl (lv_at hl 0 rfl) ?_
        refine va_get (D := G.1) (ci := 2) (v := .ref (a + 2)) (C := RX4) (T := TX4) (N := 14) hx hb hts hin4 hown hO.1 hP 0 rfl rfl 1 (by decide) hf_15 (fun _ h9 => h9) rfl dX4_shortestGapFor_19 ?_
        refine lv_iload hx hb dX4_shortestGapFor_22 (lv_at hl 4 rfl) ?_
        refine iald_n hx hb hO.1 hP 2 0 rfl rfl (by omega) (by decide) dX4_shortestGapFor_24 ?_
        refine lv_iload_n hx hb dX4_shortestGapFor_25 rfl (lv_at hl 1 rfl) ?_
        refine lv_aload_n hx hb dX4_shortestGapFor_26 rfl (lv_at hl 0 rfl) ?_
        refine va_get (D := G.1) (ci := 2) (v := .int (sO S)) (C := RX4) (T := TX4) (N := 14) hx hb hts hin4 hown hO.1 hP 0 rfl rfl 12 (by decide) hf_62 (fun _ h9 => h9) rfl dX4_shortestGapFor_27 ?_
        refine lv_iadd hx hb dX4_shortestGapFor_30 ?_
        refine lv_icmp_lt (tgt := 56) hx hb dX4_shortestGapFor_31 (by decide) (fun c_2 => ?_) (fun c_2 => ?_)
        · refine lv_iinc (v := nI (k + 1)) (lv' := [(4, .int (nI (k + 1))), (0, .ref a), (1, .int len), (2, .int best), (3, .int size)]) hx hb dX4_shortestGapFor_56 hl (k := 4) rfl (nI_1 _) (by decide) rfl (fun ls hl => ?_)
          refine lv_goto (tgt := 8) hx hb dX4_shortestGapFor_59 (by decide) ?_
          have hE_3 : f_X4_shortestGapFor S len = lp_shortest S len n (k + 1) best size := (hR.trans (by rw [lp_shortest, if_neg c_1, if_pos c_2]))
          exact ih (k + 1) best size (by omega) (by omega) hE_3 _ (lv_sub hl [1, 2, 3, 4, 0] rfl)
        · refine lv_aload_n hx hb dX4_shortestGapFor_34 rfl (lv_at hl 0 rfl) ?_
          refine va_get (D := G.1) (ci := 2) (v := .ref (a + 2)) (C := RX4) (T := TX4) (N := 14) hx hb hts hin4 hown hO.1 hP 0 rfl rfl 1 (by decide) hf_15 (fun _ h9 => h9) rfl dX4_shortestGapFor_35 ?_
          refine lv_iload hx hb dX4_shortestGapFor_38 (lv_at hl 4 rfl) ?_
          refine iald_n hx hb hO.1 hP 2 0 rfl rfl (by omega) (by decide) dX4_shortestGapFor_40 ?_
          refine lv_iload_n hx hb dX4_shortestGapFor_41 rfl (lv_at hl 3 rfl) ?_
          refine lv_icmp_ge (tgt := 56) hx hb dX4_shortestGapFor_42 (by decide) (fun c_4 => ?_) (fun c_4 => ?_)
          · refine lv_iinc (v := nI (k + 1)) (lv' := [(4, .int (nI (k + 1))), (0, .ref a), (1, .int len), (2, .int best), (3, .int size)]) hx hb dX4_shortestGapFor_56 hl (k := 4) rfl (nI_1 _) (by decide) rfl (fun ls hl => ?_)
            refine lv_goto (tgt := 8) hx hb dX4_shortestGapFor_59 (by decide) ?_
            have hE_5 : f_X4_shortestGapFor S len = lp_shortest S len n (k + 1) best size := (hR.trans (by rw [lp_shortest, if_neg c_1, if_neg c_2, if_pos c_4]))
            exact ih (k + 1) best size (by omega) (by omega) hE_5 _ (lv_sub hl [1, 2, 3, 4, 0] rfl)
          · refine lv_iload hx hb dX4_shortestGapFor_45 (lv_at hl 4 rfl) ?_
            refine lv_istore_n (lv' := [(2, .int (nI k)), (0, .ref a), (1, .int len), (3, .int size), (4, .int (nI k))]) hx hb dX4_shortestGapFor_47 rfl hl (by decide) rfl (fun ls hl => ?_)
            refine lv_aload_n hx hb dX4_shortestGapFor_48 rfl (lv_at hl 1 rfl) ?_
            refine va_get (D := G.1) (ci := 2) (v := .ref (a + 2)) (C := RX4) (T := TX4) (N := 14) hx hb hts hin4 hown hO.1 hP 0 rfl rfl 1 (by decide) hf_15 (fun _ h9 => h9) rfl dX4_shortestGapFor_49 ?_
            refine lv_iload hx hb dX4_shortestGapFor_52 (lv_at hl 4 rfl) ?_
            refine iald_n hx hb hO.1 hP 2 0 rfl rfl (by omega) (by decide) dX4_shortestGapFor_54 ?_
            refine lv_istore_n (lv' := [(3, .int ((sG S) k)), (2, .int (nI k)), (0, .ref a), (1, .int len), (4, .int (nI k))]) hx hb dX4_shortestGapFor_55 rfl hl (by decide) rfl (fun ls hl => ?_)
            refine lv_iinc (v := nI (k + 1)) (lv' := [(4, .int (nI (k + 1))), (3, .int ((sG S) k)), (2, .int (nI k)), (0, .ref a), (1, .int len)]) hx hb dX4_shortestGapFor_56 hl (k := 4) rfl (nI_1 _) (by decide) rfl (fun ls hl => ?_)
            refine lv_goto (tgt := 8) hx hb dX4_shortestGapFor_59 (by decide) ?_
            have hE_6 : f_X4_shortestGapFor S len = lp_shortest S len n (k + 1) (nI k) ((sG S) k) := (hR.trans (by rw [lp_shortest, if_neg c_1, if_neg c_2, if_neg c_4]))
            exact ih (k + 1) (nI k) ((sG S) k) (by omega) (by omega) hE_6 _ (lv_sub hl [3, 4, 2, 1, 0] rfl)
  refine lv_iconst (v := -1) hx hb dX4_shortestGapFor_0 (by decide) ?_
  refine lv_istore_n (lv' := [(2, .int (-1)), (0, .ref a), (1, .int len)]) hx hb dX4_shortestGapFor_1 rfl hl (by decide) rfl (fun ls hl => ?_)
  refine lv_bipush (v := 81) hx hb dX4_shortestGapFor_2 (by decide) ?_
  refine lv_istore_n (lv' := [(3, .int 81), (2, .int (-1)), (0, .ref a), (1, .int len)]) hx hb dX4_shortestGapFor_4 rfl hl (by decide) rfl (fun ls hl => ?_)
  refine lv_iconst (v := 0) hx hb dX4_shortestGapFor_5 (by decide) ?_
  refine lv_istore (lv' := [(4, .int 0), (3, .int 81), (2, .int (-1)), (0, .ref a), (1, .int len)]) hx hb dX4_shortestGapFor_6 hl (by decide) rfl (fun ls hl => ?_)
  have hE_7 : f_X4_shortestGapFor S len = lp_shortest S len (80 + 1) 0 (-1) 81 := (by rw [f_X4_shortestGapFor])
  exact loop8 (80 + 1) 0 (-1) 81 (Nat.zero_le _) (by omega) hE_7 _ (lv_sub hl [3, 4, 2, 1, 0] rfl)

def lp_occupy (x len mk : Int32) : Nat → Nat → St → St
  | 0, _, S2 => S2
  | n + 1, k, S2 => if len ≤ (nI k) then (h_X4_findGaps S2) else
    lp_occupy x len mk n (k + 1) (pC S2 (x + (nI k)) mk)
def h_X4_occupy (S : St) (x : Int32) (len : Int32) (mk : Int32) : St :=
  lp_occupy x len mk (len.toNatClampNeg + 1) 0 S
set_option maxHeartbeats 4000000 in
set_option maxRecDepth 100000 in
theorem c_X4_occupy (l : Launch) (G : GG) (a : Nat) (S : St) (x : Int32) (len : Int32) (mk : Int32) : Met l yX4_occupy wsX4_occupy ({ frames := 1, cells := 0, slots := 0, locals := 22 }) (PcH G [.ref a, .int x, .int len, .int mk] (Str G a S)) (QM none (Str G a (h_X4_occupy S x len mk)) (blk a (a + 9))) 0 0 (blk a (a + 9)) := by
  refine metH (cc := cX4_occupy) (maxL := 5) (ret := none) (by decide) rfl ?_
  intro p e s m below meth cd hx hb hr hml hown hts hlocks hP hO
  have hin4 : ∀ w ∈ u_ws RX4 TX4 14, w ∈ wsX4_occupy := by decide +kernel
  have hf_9 := hts (.fieldLink RX4 9 "CurbCars$Street" "cells" "[I") (by decide +kernel)
  have hA : ∀ q, (blk a (a + 9)) q → (blk a (a + 9)) q := fun _ h => h
  have hS : va_S (blk a (a + 9)) s.heap s.heap [] := va_S.rf
  have hl := lv_entry ([.ref a, .int x, .int len, .int mk]) (n := 5) (Nat.le_of_ble_eq_true rfl)
  rw [lg_entry_eq]
  generalize (lg_sl ([.ref a, .int x, .int len, .int mk]) ++ List.replicate (5 - (lg_sl ([.ref a, .int x, .int len, .int mk])).length) Slot.unset).toArray = ls at hl ⊢
  have hl : lv_has ls 5 [(0, .ref a), (1, .int x), (2, .int len), (3, .int mk)] := hl
  have loop3 : ∀ (n : Nat) (k : Nat) (S2 : St), k ≤ len.toNatClampNeg → k + n = len.toNatClampNeg + 1 → h_X4_occupy S x len mk = lp_occupy x len mk n k S2 → ∀ (H : Heap) (locs : List Loc) (ls : Array Slot), Str G a S2 H → va_S (blk a (a + 9)) s.heap H locs → lv_has ls 5 [(0, .ref a), (1, .int x), (2, .int len), (3, .int mk), (4, .int (nI k))] → W p l e (headSpec wsX4_occupy ({ frames := 1, cells := 0, slots := 0, locals := 22 } : Room)).room s m ([.ref a, .int x, .int len, .int mk] : List Value).toArray below meth cd H locs 0 0 (MQ below (QM none (Str G a (h_X4_occupy S x len mk)) (blk a (a + 9))) ([.ref a, .int x, .int len, .int mk] : List Value).toArray s 0 0 (blk a (a + 9))) (F0 m 3 ls []) := by
    intro n
    induction n with
    | zero =>
      intro k S2 hk hn hR H locs ls hP hS hl
      exact absurd hn (by omega)
    | succ n ih =>
      intro k S2 hk hn hR H locs ls hP hS hl
      refine lv_iload hx hb dX4_occupy_3 (lv_at hl 4 rfl) ?_
      refine lv_iload_n hx hb dX4_occupy_5 rfl (lv_at hl 2 rfl) ?_
      refine lv_icmp_ge (tgt := 27) hx hb dX4_occupy_6 (by decide) (fun c_1 => ?_) (fun c_1 => ?_)
      · refine lv_aload_n hx hb dX4_occupy_27 rfl (lv_at hl 0 rfl) ?_
        refine cl_mv (rV (As := []) (rest := []) ⟨hx, hb, hml, hown, hts⟩ (c_X4_findGaps l G a S2) (cwV 0 hts gX4_occupy_X4_findGaps rfl rfl rfl (by decide +kernel) ⟨Nat.le_of_ble_eq_true rfl, Nat.le_of_ble_eq_true rfl⟩) (st_recv hO hP) hP hO rfl hl.1 (Nat.le_of_ble_eq_true rfl) dX4_occupy_28 ⟨Nat.le_of_ble_eq_true rfl, Nat.le_of_ble_eq_true rfl⟩) hS hA (fun H locs hP1 hz hk hS => ?_)
        have hP : Str G a (h_X4_findGaps S2) H := hP1
        have hE : h_X4_occupy S x len mk = (h_X4_findGaps S2) := (hR.trans (by rw [lp_occupy, if_pos c_1]))
        exact W.vret hx hb hr (fun t ht hW => ⟨rfl, by rw [ht, hE]; exact hP, hS.F ht⟩) hS.2.2 dX4_occupy_31
      · have hlt : k < len.toNatClampNeg := (by have h8 := clamp_lt len; exact kV c_1 (by omega))
        refine lv_aload_n hx hb dX4_occupy_9 rfl (lv_at hl 0 rfl) ?_
        refine va_get (D := G.1) (ci := 2) (v := .ref (a + 1)) (C := RX4) (T := TX4) (N := 14) hx hb hts hin4 hown hO.1 hP 0 rfl rfl 0 (by decide) hf_9 (fun _ h9 => h9) rfl dX4_occupy_10 ?_
        refine lv_iload_n hx hb dX4_occupy_13 rfl (lv_at hl 1 rfl) ?_
        refine lv_iload hx hb dX4_occupy_14 (lv_at hl 4 rfl) ?_
        refine lv_iadd hx hb dX4_occupy_16 ?_
        refine lv_iload_n hx hb dX4_occupy_17 rfl (lv_at hl 3 rfl) ?_
        refine cl_mv (rSN (As := [.ref (a + 1), .int (x + (nI k)), .int mk]) (rest := []) ⟨hx, hb, hml, hown, hts⟩ (c_X6_put l G (a + 1) 80 (sC S2) (x + (nI k)) mk (by decide)) ⟨va_cnB 3 hts gX4_occupy_X6_put_n88 rfl rfl rfl (hO.2 _ (List.mem_of_getElem? (i := 30) rfl)) (hts (.initialized RX6) (by decide +kernel)) (by decide +kernel) ⟨Nat.le_of_ble_eq_true rfl, Nat.le_of_ble_eq_true rfl⟩, hts (.static yX6_put) (by decide +kernel), trivial⟩ (va_P.sub hP [1] rfl) hO rfl hl.1 (Nat.le_of_ble_eq_true rfl) dX4_occupy_18 ⟨Nat.le_of_ble_eq_true rfl, Nat.le_of_ble_eq_true rfl⟩) hS (fun q h => hA q (by simp only [one, blk] at *; omega)) (fun H locs hP1 hz hk hS => ?_)
        have hP : Str G a (pC S2 (x + (nI k)) mk) H := st_pC (st_row 1 hP rfl hP1 hk)
        refine lv_iinc (v := nI (k + 1)) (lv' := [(4, .int (nI (k + 1))), (0, .ref a), (1, .int x), (2, .int len), (3, .int mk)]) hx hb dX4_occupy_21 hl (k := 4) rfl (nI_1 _) (by decide) rfl (fun ls hl => ?_)
        refine lv_goto (tgt := 3) hx hb dX4_occupy_24 (by decide) ?_
        have hE_2 : h_X4_occupy S x len mk = lp_occupy x len mk n (k + 1) (pC S2 (x + (nI k)) mk) := (hR.trans (by rw [lp_occupy, if_neg c_1]))
        exact ih (k + 1) (pC S2 (x + (nI k)) mk) (by omega) (by omega) hE_2 _ _ _ hP hS (lv_sub hl [1, 2, 3, 4, 0] rfl)
  refine lv_iconst (v := 0) hx hb dX4_occupy_0 (by decide) ?_
  refine lv_istore (lv' := [(4, .int 0), (0, .ref a), (1, .int x), (2, .int len), (3, .int mk)]) hx hb dX4_occupy_1 hl (by decide) rfl (fun ls hl => ?_)
  have hE_3 : h_X4_occupy S x len mk = lp_occupy x len mk (len.toNatClampNeg + 1) 0 S := (by rw [h_X4_occupy])
  exact loop3 (len.toNatClampNeg + 1) 0 S (Nat.zero_le _) (by omega) hE_3 _ _ _ hP hS (lv_sub hl [1, 2, 3, 4, 0] rfl)

def lp_gapCount (S : St) : Nat → Nat → Int32 → Int32
  | 0, _, _ => 0
  | n + 1, k, acc => if 80 ≤ (nI k) then acc else
    if ((sG S) k) ≤ 0 then lp_gapCount S n (k + 1) acc else
    lp_gapCount S n (k + 1) (acc + 1)
def f_X4_gapCount (S : St) : Int32 :=
  lp_gapCount S (80 + 1) 0 0
set_option maxHeartbeats 4000000 in
set_option maxRecDepth 100000 in
theorem c_X4_gapCount (l : Launch) (G : GG) (a : Nat) (S : St) : Met l yX4_gapCount wsX4_gapCount ({ frames := 0, cells := 0, slots := 0, locals := 0 }) (PcH G [.ref a] (Str G a S)) (QP (some (.int (f_X4_gapCount S)))) 0 0 noA := by
  refine metH (cc := cX4_gapCount) (maxL := 3) (ret := (some .int)) (by decide) rfl ?_
  intro p e s m below meth cd hx hb hr hml hown hts hlocks hP hO
  have hin4 : ∀ w ∈ u_ws RX4 TX4 14, w ∈ wsX4_gapCount := by decide +kernel
  have hf_15 := hts (.fieldLink RX4 15 "CurbCars$Street" "gapSizes" "[I") (by decide +kernel)
  have hS : va_S noA s.heap s.heap [] := va_S.rf
  have hl := lv_entry ([.ref a]) (n := 3) (Nat.le_of_ble_eq_true rfl)
  rw [lg_entry_eq]
  generalize (lg_sl ([.ref a]) ++ List.replicate (3 - (lg_sl ([.ref a])).length) Slot.unset).toArray = ls at hl ⊢
  have hl : lv_has ls 3 [(0, .ref a)] := hl
  have loop4 : ∀ (n : Nat) (k : Nat) (acc : Int32) , k ≤ 80 → k + n = 80 + 1 → f_X4_gapCount S = lp_gapCount S n k acc → ∀ (ls : Array Slot), lv_has ls 3 [(0, .ref a), (1, .int acc), (2, .int (nI k))] → W p l e (headSpec wsX4_gapCount ({ frames := 0, cells := 0, slots := 0, locals := 0 } : Room)).room s m ([.ref a] : List Value).toArray below meth cd s.heap [] 0 0 (MQ below (QP (some (.int (f_X4_gapCount S)))) ([.ref a] : List Value).toArray s 0 0 noA) (F0 m 4 ls []) := by
    intro n
    induction n with
    | zero =>
      intro k acc hk hn hR ls hl
      exact absurd hn (by omega)
    | succ n ih =>
      intro k acc hk hn hR ls hl
      refine lv_iload_n hx hb dX4_gapCount_4 rfl (lv_at hl 2 rfl) ?_
      refine lv_aload_n hx hb dX4_gapCount_5 rfl (lv_at hl 0 rfl) ?_
      refine va_get (D := G.1) (ci := 2) (v := .ref (a + 2)) (C := RX4) (T := TX4) (N := 14) hx hb hts hin4 hown hO.1 hP 0 rfl rfl 1 (by decide) hf_15 (fun _ h9 => h9) rfl dX4_gapCount_6 ?_
      refine va_alen (ty := .int) (v := 80) hx hb hO.1 hP 2 0 rfl rfl rfl dX4_gapCount_9 ?_
      refine lv_icmp_ge (tgt := 31) hx hb dX4_gapCount_10 (by decide) (fun c_1 => ?_) (fun c_1 => ?_)
      · refine lv_iload_n hx hb dX4_gapCount_31 rfl (lv_at hl 1 rfl) ?_
        have hE : f_X4_gapCount S = acc := (hR.trans (by rw [lp_gapCount, if_pos c_1]))
        exact W.iret hx hb hr (fun t ht hW => ⟨by rw [hE], ht⟩) hS.2.2 dX4_gapCount_32
      · have hlt : k < 80 := kN (B := 80) c_1 (by omega) (by omega)
        refine lv_aload_n hx hb dX4_gapCount_13 rfl (lv_at hl 0 rfl) ?_
        refine va_get (D := G.1) (ci := 2) (v := .ref (a + 2)) (C := RX4) (T := TX4) (N := 14) hx hb hts hin4 hown hO.1 hP 0 rfl rfl 1 (by decide) hf_15 (fun _ h9 => h9) rfl dX4_gapCount_14 ?_
        refine lv_iload_n hx hb dX4_gapCount_17 rfl (lv_at hl 2 rfl) ?_
        refine iald_n hx hb hO.1 hP 2 0 rfl rfl (by omega) (by decide) dX4_gapCount_18 ?_
        refine lv_if_le (tgt := 25) hx hb dX4_gapCount_19 (by decide) (fun c_2 => ?_) (fun c_2 => ?_)
        · refine lv_iinc (v := nI (k + 1)) (lv' := [(2, .int (nI (k + 1))), (0, .ref a), (1, .int acc)]) hx hb dX4_gapCount_25 hl (k := 2) rfl (nI_1 _) (by decide) rfl (fun ls hl => ?_)
          refine lv_goto (tgt := 4) hx hb dX4_gapCount_28 (by decide) ?_
          have hE_3 : f_X4_gapCount S = lp_gapCount S n (k + 1) acc := (hR.trans (by rw [lp_gapCount, if_neg c_1, if_pos c_2]))
          exact ih (k + 1) acc (by omega) (by omega) hE_3 _ (lv_sub hl [1, 2, 0] rfl)
        · refine lv_iinc (v := acc + 1) (lv' := [(1, .int (acc + 1)), (0, .ref a), (2, .int (nI k))]) hx hb dX4_gapCount_22 hl (k := 1) rfl rfl (by decide) rfl (fun ls hl => ?_)
          refine lv_iinc (v := nI (k + 1)) (lv' := [(2, .int (nI (k + 1))), (1, .int (acc + 1)), (0, .ref a)]) hx hb dX4_gapCount_25 hl (k := 2) rfl (nI_1 _) (by decide) rfl (fun ls hl => ?_)
          refine lv_goto (tgt := 4) hx hb dX4_gapCount_28 (by decide) ?_
          have hE_4 : f_X4_gapCount S = lp_gapCount S n (k + 1) (acc + 1) := (hR.trans (by rw [lp_gapCount, if_neg c_1, if_neg c_2]))
          exact ih (k + 1) (acc + 1) (by omega) (by omega) hE_4 _ (lv_sub hl [2, 1, 0] rfl)
  refine lv_iconst (v := 0) hx hb dX4_gapCount_0 (by decide) ?_
  refine lv_istore_n (lv' := [(1, .int 0), (0, .ref a)]) hx hb dX4_gapCount_1 rfl hl (by decide) rfl (fun ls hl => ?_)
  refine lv_iconst (v := 0) hx hb dX4_gapCount_2 (by decide) ?_
  refine lv_istore_n (lv' := [(2, .int 0), (1, .int 0), (0, .ref a)]) hx hb dX4_gapCount_3 rfl hl (by decide) rfl (fun ls hl => ?_)
  have hE_5 : f_X4_gapCount S = lp_gapCount S (80 + 1) 0 0 := (by rw [f_X4_gapCount])
  exact loop4 (80 + 1) 0 0 (Nat.zero_le _) (by omega) hE_5 _ (lv_sub hl [2, 1, 0] rfl)

def lp_longest (S : St) : Nat → Nat → Int32 → Int32
  | 0, _, _ => 0
  | n + 1, k, acc => if 80 ≤ (nI k) then acc else
    if ((sG S) k) ≤ acc then lp_longest S n (k + 1) acc else
    lp_longest S n (k + 1) ((sG S) k)
def f_X4_longestGap (S : St) : Int32 :=
  lp_longest S (80 + 1) 0 0
set_option maxHeartbeats 4000000 in
set_option maxRecDepth 100000 in
theorem c_X4_longestGap (l : Launch) (G : GG) (a : Nat) (S : St) : Met l yX4_longestGap wsX4_longestGap ({ frames := 0, cells := 0, slots := 0, locals := 0 }) (PcH G [.ref a] (Str G a S)) (QP (some (.int (f_X4_longestGap S)))) 0 0 noA := by
  refine metH (cc := cX4_longestGap) (maxL := 3) (ret := (some .int)) (by decide) rfl ?_
  intro p e s m below meth cd hx hb hr hml hown hts hlocks hP hO
  have hin4 : ∀ w ∈ u_ws RX4 TX4 14, w ∈ wsX4_longestGap := by decide +kernel
  have hf_15 := hts (.fieldLink RX4 15 "CurbCars$Street" "gapSizes" "[I") (by decide +kernel)
  have hS : va_S noA s.heap s.heap [] := va_S.rf
  have hl := lv_entry ([.ref a]) (n := 3) (Nat.le_of_ble_eq_true rfl)
  rw [lg_entry_eq]
  generalize (lg_sl ([.ref a]) ++ List.replicate (3 - (lg_sl ([.ref a])).length) Slot.unset).toArray = ls at hl ⊢
  have hl : lv_has ls 3 [(0, .ref a)] := hl
  have loop4 : ∀ (n : Nat) (k : Nat) (acc : Int32) , k ≤ 80 → k + n = 80 + 1 → f_X4_longestGap S = lp_longest S n k acc → ∀ (ls : Array Slot), lv_has ls 3 [(0, .ref a), (1, .int acc), (2, .int (nI k))] → W p l e (headSpec wsX4_longestGap ({ frames := 0, cells := 0, slots := 0, locals := 0 } : Room)).room s m ([.ref a] : List Value).toArray below meth cd s.heap [] 0 0 (MQ below (QP (some (.int (f_X4_longestGap S)))) ([.ref a] : List Value).toArray s 0 0 noA) (F0 m 4 ls []) := by
    intro n
    induction n with
    | zero =>
      intro k acc hk hn hR ls hl
      exact absurd hn (by omega)
    | succ n ih =>
      intro k acc hk hn hR ls hl
      refine lv_iload_n hx hb dX4_longestGap_4 rfl (lv_at hl 2 rfl) ?_
      refine lv_aload_n hx hb dX4_longestGap_5 rfl (lv_at hl 0 rfl) ?_
      refine va_get (D := G.1) (ci := 2) (v := .ref (a + 2)) (C := RX4) (T := TX4) (N := 14) hx hb hts hin4 hown hO.1 hP 0 rfl rfl 1 (by decide) hf_15 (fun _ h9 => h9) rfl dX4_longestGap_6 ?_
      refine va_alen (ty := .int) (v := 80) hx hb hO.1 hP 2 0 rfl rfl rfl dX4_longestGap_9 ?_
      refine lv_icmp_ge (tgt := 36) hx hb dX4_longestGap_10 (by decide) (fun c_1 => ?_) (fun c_1 => ?_)
      · refine lv_iload_n hx hb dX4_longestGap_36 rfl (lv_at hl 1 rfl) ?_
        have hE : f_X4_longestGap S = acc := (hR.trans (by rw [lp_longest, if_pos c_1]))
        exact W.iret hx hb hr (fun t ht hW => ⟨by rw [hE], ht⟩) hS.2.2 dX4_longestGap_37
      · have hlt : k < 80 := kN (B := 80) c_1 (by omega) (by omega)
        refine lv_aload_n hx hb dX4_longestGap_13 rfl (lv_at hl 0 rfl) ?_
        refine va_get (D := G.1) (ci := 2) (v := .ref (a + 2)) (C := RX4) (T := TX4) (N := 14) hx hb hts hin4 hown hO.1 hP 0 rfl rfl 1 (by decide) hf_15 (fun _ h9 => h9) rfl dX4_longestGap_14 ?_
        refine lv_iload_n hx hb dX4_longestGap_17 rfl (lv_at hl 2 rfl) ?_
        refine iald_n hx hb hO.1 hP 2 0 rfl rfl (by omega) (by decide) dX4_longestGap_18 ?_
        refine lv_iload_n hx hb dX4_longestGap_19 rfl (lv_at hl 1 rfl) ?_
        refine lv_icmp_le (tgt := 30) hx hb dX4_longestGap_20 (by decide) (fun c_2 => ?_) (fun c_2 => ?_)
        · refine lv_iinc (v := nI (k + 1)) (lv' := [(2, .int (nI (k + 1))), (0, .ref a), (1, .int acc)]) hx hb dX4_longestGap_30 hl (k := 2) rfl (nI_1 _) (by decide) rfl (fun ls hl => ?_)
          refine lv_goto (tgt := 4) hx hb dX4_longestGap_33 (by decide) ?_
          have hE_3 : f_X4_longestGap S = lp_longest S n (k + 1) acc := (hR.trans (by rw [lp_longest, if_neg c_1, if_pos c_2]))
          exact ih (k + 1) acc (by omega) (by omega) hE_3 _ (lv_sub hl [1, 2, 0] rfl)
        · refine lv_aload_n hx hb dX4_longestGap_23 rfl (lv_at hl 0 rfl) ?_
          refine va_get (D := G.1) (ci := 2) (v := .ref (a + 2)) (C := RX4) (T := TX4) (N := 14) hx hb hts hin4 hown hO.1 hP 0 rfl rfl 1 (by decide) hf_15 (fun _ h9 => h9) rfl dX4_longestGap_24 ?_
          refine lv_iload_n hx hb dX4_longestGap_27 rfl (lv_at hl 2 rfl) ?_
          refine iald_n hx hb hO.1 hP 2 0 rfl rfl (by omega) (by decide) dX4_longestGap_28 ?_
          refine lv_istore_n (lv' := [(1, .int ((sG S) k)), (0, .ref a), (2, .int (nI k))]) hx hb dX4_longestGap_29 rfl hl (by decide) rfl (fun ls hl => ?_)
          refine lv_iinc (v := nI (k + 1)) (lv' := [(2, .int (nI (k + 1))), (1, .int ((sG S) k)), (0, .ref a)]) hx hb dX4_longestGap_30 hl (k := 2) rfl (nI_1 _) (by decide) rfl (fun ls hl => ?_)
          refine lv_goto (tgt := 4) hx hb dX4_longestGap_33 (by decide) ?_
          have hE_4 : f_X4_longestGap S = lp_longest S n (k + 1) ((sG S) k) := (hR.trans (by rw [lp_longest, if_neg c_1, if_neg c_2]))
          exact ih (k + 1) ((sG S) k) (by omega) (by omega) hE_4 _ (lv_sub hl [2, 1, 0] rfl)
  refine lv_iconst (v := 0) hx hb dX4_longestGap_0 (by decide) ?_
  refine lv_istore_n (lv' := [(1, .int 0), (0, .ref a)]) hx hb dX4_longestGap_1 rfl hl (by decide) rfl (fun ls hl => ?_)
  refine lv_iconst (v := 0) hx hb dX4_longestGap_2 (by decide) ?_
  refine lv_istore_n (lv' := [(2, .int 0), (1, .int 0), (0, .ref a)]) hx hb dX4_longestGap_3 rfl hl (by decide) rfl (fun ls hl => ?_)
  have hE_5 : f_X4_longestGap S = lp_longest S (80 + 1) 0 0 := (by rw [f_X4_longestGap])
  exact loop4 (80 + 1) 0 0 (Nat.zero_le _) (by omega) hE_5 _ (lv_sub hl [2, 1, 0] rfl)

def lp_lowest (S : St) (len : Int32) : Nat → Nat → Int32
  | 0, _ => 0
  | n + 1, k => if 80 ≤ (nI k) then (-1) else
    if ((sG S) k) < (len + (sO S)) then lp_lowest S len n (k + 1) else
    nI k
def f_X4_lowestGapFor (S : St) (len : Int32) : Int32 :=
  lp_lowest S len (80 + 1) 0
set_option maxHeartbeats 4000000 in
set_option maxRecDepth 100000 in
theorem c_X4_lowestGapFor (l : Launch) (G : GG) (a : Nat) (S : St) (len : Int32) : Met l yX4_lowestGapFor wsX4_lowestGapFor ({ frames := 0, cells := 0, slots := 0, locals := 0 }) (PcH G [.ref a, .int len] (Str G a S)) (QP (some (.int (f_X4_lowestGapFor S len)))) 0 0 noA := by
  refine metH (cc := cX4_lowestGapFor) (maxL := 3) (ret := (some .int)) (by decide) rfl ?_
  intro p e s m below meth cd hx hb hr hml hown hts hlocks hP hO
  have hin4 : ∀ w ∈ u_ws RX4 TX4 14, w ∈ wsX4_lowestGapFor := by decide +kernel
  have hf_15 := hts (.fieldLink RX4 15 "CurbCars$Street" "gapSizes" "[I") (by decide +kernel)
  have hf_62 := hts (.fieldLink RX4 62 "CurbCars$Street" "room" "I") (by decide +kernel)
  have hS : va_S noA s.heap s.heap [] := va_S.rf
  have hl := lv_entry ([.ref a, .int len]) (n := 3) (Nat.le_of_ble_eq_true rfl)
  rw [lg_entry_eq]
  generalize (lg_sl ([.ref a, .int len]) ++ List.replicate (3 - (lg_sl ([.ref a, .int len])).length) Slot.unset).toArray = ls at hl ⊢
  have hl : lv_has ls 3 [(0, .ref a), (1, .int len)] := hl
  have loop2 : ∀ (n : Nat) (k : Nat) , k ≤ 80 → k + n = 80 + 1 → f_X4_lowestGapFor S len = lp_lowest S len n k → ∀ (ls : Array Slot), lv_has ls 3 [(0, .ref a), (1, .int len), (2, .int (nI k))] → W p l e (headSpec wsX4_lowestGapFor ({ frames := 0, cells := 0, slots := 0, locals := 0 } : Room)).room s m ([.ref a, .int len] : List Value).toArray below meth cd s.heap [] 0 0 (MQ below (QP (some (.int (f_X4_lowestGapFor S len)))) ([.ref a, .int len] : List Value).toArray s 0 0 noA) (F0 m 2 ls []) := by
    intro n
    induction n with
    | zero =>
      intro k hk hn hR ls hl
      exact absurd hn (by omega)
    | succ n ih =>
      intro k hk hn hR ls hl
      refine lv_iload_n hx hb dX4_lowestGapFor_2 rfl (lv_at hl 2 rfl) ?_
      refine lv_aload_n hx hb dX4_lowestGapFor_3 rfl (lv_at hl 0 rfl) ?_
      refine va_get (D := G.1) (ci := 2) (v := .ref (a + 2)) (C := RX4) (T := TX4) (N := 14) hx hb hts hin4 hown hO.1 hP 0 rfl rfl 1 (by decide) hf_15 (fun _ h9 => h9) rfl dX4_lowestGapFor_4 ?_
      refine va_alen (ty := .int) (v := 80) hx hb hO.1 hP 2 0 rfl rfl rfl dX4_lowestGapFor_7 ?_
      refine lv_icmp_ge (tgt := 34) hx hb dX4_lowestGapFor_8 (by decide) (fun c_1 => ?_) (fun c_1 => ?_)
      · refine lv_iconst (v := -1) hx hb dX4_lowestGapFor_34 (by decide) ?_
        have hE : f_X4_lowestGapFor S len = (-1) := (hR.trans (by rw [lp_lowest, if_pos c_1]))
        exact W.iret hx hb hr (fun t ht hW => ⟨by rw [hE], ht⟩) hS.2.2 dX4_lowestGapFor_35
      · have hlt : k < 80 := kN (B := 80) c_1 (by omega) (by omega)
        refine lv_aload_n hx hb dX4_lowestGapFor_11 rfl (lv_at hl 0 rfl) ?_
        refine va_get (D := G.1) (ci := 2) (v := .ref (a + 2)) (C := RX4) (T := TX4) (N := 14) hx hb hts hin4 hown hO.1 hP 0 rfl rfl 1 (by decide) hf_15 (fun _ h9 => h9) rfl dX4_lowestGapFor_12 ?_
        refine lv_iload_n hx hb dX4_lowestGapFor_15 rfl (lv_at hl 2 rfl) ?_
        refine iald_n hx hb hO.1 hP 2 0 rfl rfl (by omega) (by decide) dX4_lowestGapFor_16 ?_
        refine lv_iload_n hx hb dX4_lowestGapFor_17 rfl (lv_at hl 1 rfl) ?_
        refine lv_aload_n hx hb dX4_lowestGapFor_18 rfl (lv_at hl 0 rfl) ?_
        refine va_get (D := G.1) (ci := 2) (v := .int (sO S)) (C := RX4) (T := TX4) (N := 14) hx hb hts hin4 hown hO.1 hP 0 rfl rfl 12 (by decide) hf_62 (fun _ h9 => h9) rfl dX4_lowestGapFor_19 ?_
        refine lv_iadd hx hb dX4_lowestGapFor_22 ?_
        refine lv_icmp_lt (tgt := 28) hx hb dX4_lowestGapFor_23 (by decide) (fun c_2 => ?_) (fun c_2 => ?_)
        · refine lv_iinc (v := nI (k + 1)) (lv' := [(2, .int (nI (k + 1))), (0, .ref a), (1, .int len)]) hx hb dX4_lowestGapFor_28 hl (k := 2) rfl (nI_1 _) (by decide) rfl (fun ls hl => ?_)
          refine lv_goto (tgt := 2) hx hb dX4_lowestGapFor_31 (by decide) ?_
          have hE_3 : f_X4_lowestGapFor S len = lp_lowest S len n (k + 1) := (hR.trans (by rw [lp_lowest, if_neg c_1, if_pos c_2]))
          exact ih (k + 1) (by omega) (by omega) hE_3 _ (lv_sub hl [1, 2, 0] rfl)
        · refine lv_iload_n hx hb dX4_lowestGapFor_26 rfl (lv_at hl 2 rfl) ?_
          have hE : f_X4_lowestGapFor S len = nI k := (hR.trans (by rw [lp_lowest, if_neg c_1, if_neg c_2]))
          exact W.iret hx hb hr (fun t ht hW => ⟨by rw [hE], ht⟩) hS.2.2 dX4_lowestGapFor_27
  refine lv_iconst (v := 0) hx hb dX4_lowestGapFor_0 (by decide) ?_
  refine lv_istore_n (lv' := [(2, .int 0), (0, .ref a), (1, .int len)]) hx hb dX4_lowestGapFor_1 rfl hl (by decide) rfl (fun ls hl => ?_)
  have hE_4 : f_X4_lowestGapFor S len = lp_lowest S len (80 + 1) 0 := (by rw [f_X4_lowestGapFor])
  exact loop2 (80 + 1) 0 (Nat.zero_le _) (by omega) hE_4 _ (lv_sub hl [1, 2, 0] rfl)

def lp_pick (S : St) (len : Int32) : Nat → Nat → Int32 → Int32
  | 0, _, _ => 0
  | n + 1, k, num => if 80 ≤ (nI k) then (-1) else
    if ((sG S) k) < (len + (sO S)) then (if 0 ≤ num then lp_pick S len n (k + 1) (num - 0) else
      (nI k) + num) else
    if ((((sG S) k) - len) + 1) ≤ num then lp_pick S len n (k + 1) (num - ((((sG S) k) - len) + 1)) else
    (nI k) + num
def lp_places (S : St) (len : Int32) (dr : Int64) : Nat → Nat → Int32 → Int32
  | 0, _, _ => 0
  | n + 1, k, acc => if 80 ≤ (nI k) then (if 0 < acc then lp_pick S len (80 + 1) 0 (((jUshr dr 33).toInt32) - ((jUshr dr 33).toInt32) / acc * acc) else
      (-1)) else
    if ((sG S) k) < (len + (sO S)) then lp_places S len dr n (k + 1) acc else
    lp_places S len dr n (k + 1) (acc + ((((sG S) k) - len) + 1))
def f_X4_placeByChance (S : St) (len : Int32) (dr : Int64) : Int32 :=
  lp_places S len dr (80 + 1) 0 0
set_option maxHeartbeats 4000000 in
set_option maxRecDepth 100000 in
theorem c_X4_placeByChance (l : Launch) (G : GG) (a : Nat) (S : St) (len : Int32) (dr : Int64) : Met l yX4_placeByChance wsX4_placeByChance ({ frames := 0, cells := 0, slots := 0, locals := 0 }) (PcH G [.ref a, .int len, .long dr] (Str G a S)) (QP (some (.int (f_X4_placeByChance S len dr)))) 0 0 noA := by
  refine metH (cc := cX4_placeByChance) (maxL := 8) (ret := (some .int)) (by decide) rfl ?_
  intro p e s m below meth cd hx hb hr hml hown hts hlocks hP hO
  have hin4 : ∀ w ∈ u_ws RX4 TX4 14, w ∈ wsX4_placeByChance := by decide +kernel
  have hf_15 := hts (.fieldLink RX4 15 "CurbCars$Street" "gapSizes" "[I") (by decide +kernel)
  have hf_62 := hts (.fieldLink RX4 62 "CurbCars$Street" "room" "I") (by decide +kernel)
  have hS : va_S noA s.heap s.heap [] := va_S.rf
  have hl := lv_entry ([.ref a, .int len, .long dr]) (n := 8) (Nat.le_of_ble_eq_true rfl)
  rw [lg_entry_eq]
  generalize (lg_sl ([.ref a, .int len, .long dr]) ++ List.replicate (8 - (lg_sl ([.ref a, .int len, .long dr])).length) Slot.unset).toArray = ls at hl ⊢
  have hl : lv_has ls 8 [(0, .ref a), (1, .int len), (2, .long dr)] := hl
  have loop74 : ∀ (n : Nat) (k : Nat) (num : Int32) , k ≤ 80 → k + n = 80 + 1 → f_X4_placeByChance S len dr = lp_pick S len n k num → ∀ (ls : Array Slot), lv_has ls 8 [(0, .ref a), (1, .int len), (5, .int num), (6, .int (nI k))] → W p l e (headSpec wsX4_placeByChance ({ frames := 0, cells := 0, slots := 0, locals := 0 } : Room)).room s m ([.ref a, .int len, .long dr] : List Value).toArray below meth cd s.heap [] 0 0 (MQ below (QP (some (.int (f_X4_placeByChance S len dr)))) ([.ref a, .int len, .long dr] : List Value).toArray s 0 0 noA) (F0 m 74 ls []) := by
    intro n
    induction n with
    | zero =>
      intro k num hk hn hR ls hl
      exact absurd hn (by omega)
    | succ n ih =>
      intro k num hk hn hR ls hl
      refine lv_iload hx hb dX4_placeByChance_74 (lv_at hl 3 rfl) ?_
      refine lv_aload_n hx hb dX4_placeByChance_76 rfl (lv_at hl 0 rfl) ?_
      refine va_get (D := G.1) (ci := 2) (v := .ref (a + 2)) (C := RX4) (T := TX4) (N := 14) hx hb hts hin4 hown hO.1 hP 0 rfl rfl 1 (by decide) hf_15 (fun _ h9 => h9) rfl dX4_placeByChance_77 ?_
      refine va_alen (ty := .int) (v := 80) hx hb hO.1 hP 2 0 rfl rfl rfl dX4_placeByChance_80 ?_
      refine lv_icmp_ge (tgt := 143) hx hb dX4_placeByChance_81 (by decide) (fun c_1 => ?_) (fun c_1 => ?_)
      · refine lv_iconst (v := -1) hx hb dX4_placeByChance_143 (by decide) ?_
        have hE : f_X4_placeByChance S len dr = (-1) := (hR.trans (by rw [lp_pick, if_pos c_1]))
        exact W.iret hx hb hr (fun t ht hW => ⟨by rw [hE], ht⟩) hS.2.2 dX4_placeByChance_144
      · have hlt : k < 80 := kN (B := 80) c_1 (by omega) (by omega)
        refine lv_aload_n hx hb dX4_placeByChance_84 rfl (lv_at hl 0 rfl) ?_
        refine va_get (D := G.1) (ci := 2) (v := .ref (a + 2)) (C := RX4) (T := TX4) (N := 14) hx hb hts hin4 hown hO.1 hP 0 rfl rfl 1 (by decide) hf_15 (fun _ h9 => h9) rfl dX4_placeByChance_85 ?_
        refine lv_iload hx hb dX4_placeByChance_88 (lv_at hl 3 rfl) ?_
        refine iald_n hx hb hO.1 hP 2 0 rfl rfl (by omega) (by decide) dX4_placeByChance_90 ?_
        refine lv_iload_n hx hb dX4_placeByChance_91 rfl (lv_at hl 1 rfl) ?_
        refine lv_aload_n hx hb dX4_placeByChance_92 rfl (lv_at hl 0 rfl) ?_
        refine va_get (D := G.1) (ci := 2) (v := .int (sO S)) (C := RX4) (T := TX4) (N := 14) hx hb hts hin4 hown hO.1 hP 0 rfl rfl 12 (by decide) hf_62 (fun _ h9 => h9) rfl dX4_placeByChance_93 ?_
        refine lv_iadd hx hb dX4_placeByChance_96 ?_
        refine lv_icmp_lt (tgt := 114) hx hb dX4_placeByChance_97 (by decide) (fun c_2 => ?_) (fun c_2 => ?_)
        · refine lv_iconst (v := 0) hx hb dX4_placeByChance_114 (by decide) ?_
          refine lv_istore (lv' := [(7, .int 0), (0, .ref a), (1, .int len), (5, .int num), (6, .int (nI k))]) hx hb dX4_placeByChance_115 hl (by decide) rfl (fun ls hl => ?_)
          refine lv_iload hx hb dX4_placeByChance_117 (lv_at hl 3 rfl) ?_
          refine lv_iload hx hb dX4_placeByChance_119 (lv_at hl 0 rfl) ?_
          refine lv_icmp_ge (tgt := 130) hx hb dX4_placeByChance_121 (by decide) (fun c_3 => ?_) (fun c_3 => ?_)
          · refine lv_iload hx hb dX4_placeByChance_130 (lv_at hl 3 rfl) ?_
            refine lv_iload hx hb dX4_placeByChance_132 (lv_at hl 0 rfl) ?_
            refine lv_isub hx hb dX4_placeByChance_134 ?_
            refine lv_istore (lv' := [(5, .int (num - 0)), (7, .int 0), (0, .ref a), (1, .int len), (6, .int (nI k))]) hx hb dX4_placeByChance_135 hl (by decide) rfl (fun ls hl => ?_)
            refine lv_iinc (v := nI (k + 1)) (lv' := [(6, .int (nI (k + 1))), (5, .int (num - 0)), (7, .int 0), (0, .ref a), (1, .int len)]) hx hb dX4_placeByChance_137 hl (k := 4) rfl (nI_1 _) (by decide) rfl (fun ls hl => ?_)
            refine lv_goto (tgt := 74) hx hb dX4_placeByChance_140 (by decide) ?_
            have hE_4 : f_X4_placeByChance S len dr = lp_pick S len n (k + 1) (num - 0) := (hR.trans (by rw [lp_pick, if_neg c_1, if_pos c_2, if_pos c_3]))
            exact ih (k + 1) (num - 0) (by omega) (by omega) hE_4 _ (lv_sub hl [3, 4, 1, 0] rfl)
          · refine lv_iload hx hb dX4_placeByChance_124 (lv_at hl 4 rfl) ?_
            refine lv_iload hx hb dX4_placeByChance_126 (lv_at hl 3 rfl) ?_
            refine lv_iadd hx hb dX4_placeByChance_128 ?_
            have hE : f_X4_placeByChance S len dr = (nI k) + num := (hR.trans (by rw [lp_pick, if_neg c_1, if_pos c_2, if_neg c_3]))
            exact W.iret hx hb hr (fun t ht hW => ⟨by rw [hE], ht⟩) hS.2.2 dX4_placeByChance_129
        · refine lv_aload_n hx hb dX4_placeByChance_100 rfl (lv_at hl 0 rfl) ?_
          refine va_get (D := G.1) (ci := 2) (v := .ref (a + 2)) (C := RX4) (T := TX4) (N := 14) hx hb hts hin4 hown hO.1 hP 0 rfl rfl 1 (by decide) hf_15 (fun _ h9 => h9) rfl dX4_placeByChance_101 ?_
          refine lv_iload hx hb dX4_placeByChance_104 (lv_at hl 3 rfl) ?_
          refine iald_n hx hb hO.1 hP 2 0 rfl rfl (by omega) (by decide) dX4_placeByChance_106 ?_
          refine lv_iload_n hx hb dX4_placeByChance_107 rfl (lv_at hl 1 rfl) ?_
          refine lv_isub hx hb dX4_placeByChance_108 ?_
          refine lv_iconst (v := 1) hx hb dX4_placeByChance_109 (by decide) ?_
          refine lv_iadd hx hb dX4_placeByChance_110 ?_
          refine lv_goto (tgt := 115) hx hb dX4_placeByChance_111 (by decide) ?_
          refine lv_istore (lv' := [(7, .int ((((sG S) k) - len) + 1)), (0, .ref a), (1, .int len), (5, .int num), (6, .int (nI k))]) hx hb dX4_placeByChance_115 hl (by decide) rfl (fun ls hl => ?_)
          refine lv_iload hx hb dX4_placeByChance_117 (lv_at hl 3 rfl) ?_
          refine lv_iload hx hb dX4_placeByChance_119 (lv_at hl 0 rfl) ?_
          refine lv_icmp_ge (tgt := 130) hx hb dX4_placeByChance_121 (by decide) (fun c_5 => ?_) (fun c_5 => ?_)
          · refine lv_iload hx hb dX4_placeByChance_130 (lv_at hl 3 rfl) ?_
            refine lv_iload hx hb dX4_placeByChance_132 (lv_at hl 0 rfl) ?_
            refine lv_isub hx hb dX4_placeByChance_134 ?_
            refine lv_istore (lv' := [(5, .int (num - ((((sG S) k) - len) + 1))), (7, .int ((((sG S) k) - len) + 1)), (0, .ref a), (1, .int len), (6, .int (nI k))]) hx hb dX4_placeByChance_135 hl (by decide) rfl (fun ls hl => ?_)
            refine lv_iinc (v := nI (k + 1)) (lv' := [(6, .int (nI (k + 1))), (5, .int (num - ((((sG S) k) - len) + 1))), (7, .int ((((sG S) k) - len) + 1)), (0, .ref a), (1, .int len)]) hx hb dX4_placeByChance_137 hl (k := 4) rfl (nI_1 _) (by decide) rfl (fun ls hl => ?_)
            refine lv_goto (tgt := 74) hx hb dX4_placeByChance_140 (by decide) ?_
            have hE_6 : f_X4_placeByChance S len dr = lp_pick S len n (k + 1) (num - ((((sG S) k) - len) + 1)) := (hR.trans (by rw [lp_pick, if_neg c_1, if_neg c_2, if_pos c_5]))
            exact ih (k + 1) (num - ((((sG S) k) - len) + 1)) (by omega) (by omega) hE_6 _ (lv_sub hl [3, 4, 1, 0] rfl)
          · refine lv_iload hx hb dX4_placeByChance_124 (lv_at hl 4 rfl) ?_
            refine lv_iload hx hb dX4_placeByChance_126 (lv_at hl 3 rfl) ?_
            refine lv_iadd hx hb dX4_placeByChance_128 ?_
            have hE : f_X4_placeByChance S len dr = (nI k) + num := (hR.trans (by rw [lp_pick, if_neg c_1, if_neg c_2, if_neg c_5]))
            exact W.iret hx hb hr (fun t ht hW => ⟨by rw [hE], ht⟩) hS.2.2 dX4_placeByChance_129
  have loop6 : ∀ (n : Nat) (k : Nat) (acc : Int32) , k ≤ 80 → k + n = 80 + 1 → f_X4_placeByChance S len dr = lp_places S len dr n k acc → ∀ (ls : Array Slot), lv_has ls 8 [(0, .ref a), (1, .int len), (2, .long dr), (4, .int acc), (5, .int (nI k))] → W p l e (headSpec wsX4_placeByChance ({ frames := 0, cells := 0, slots := 0, locals := 0 } : Room)).room s m ([.ref a, .int len, .long dr] : List Value).toArray below meth cd s.heap [] 0 0 (MQ below (QP (some (.int (f_X4_placeByChance S len dr)))) ([.ref a, .int len, .long dr] : List Value).toArray s 0 0 noA) (F0 m 6 ls []) := by
    intro n
    induction n with
    | zero =>
      intro k acc hk hn hR ls hl
      exact absurd hn (by omega)
    | succ n ih =>
      intro k acc hk hn hR ls hl
      refine lv_iload hx hb dX4_placeByChance_6 (lv_at hl 4 rfl) ?_
      refine lv_aload_n hx hb dX4_placeByChance_8 rfl (lv_at hl 0 rfl) ?_
      refine va_get (D := G.1) (ci := 2) (v := .ref (a + 2)) (C := RX4) (T := TX4) (N := 14) hx hb hts hin4 hown hO.1 hP 0 rfl rfl 1 (by decide) hf_15 (fun _ h9 => h9) rfl dX4_placeByChance_9 ?_
      refine va_alen (ty := .int) (v := 80) hx hb hO.1 hP 2 0 rfl rfl rfl dX4_placeByChance_12 ?_
      refine lv_icmp_ge (tgt := 54) hx hb dX4_placeByChance_13 (by decide) (fun c_7 => ?_) (fun c_7 => ?_)
      · refine lv_iload hx hb dX4_placeByChance_54 (lv_at hl 3 rfl) ?_
        refine lv_if_gt (tgt := 61) hx hb dX4_placeByChance_56 (by decide) (fun c_8 => ?_) (fun c_8 => ?_)
        · refine lv_lload_n hx hb dX4_placeByChance_61 rfl (lv_at hl 2 rfl) ?_
          refine lv_bipush (v := 33) hx hb dX4_placeByChance_62 (by decide) ?_
          refine lv_lushr (v := jUshr dr 33) hx hb dX4_placeByChance_64 rfl ?_
          refine lv_l2i (v := (jUshr dr 33).toInt32) hx hb dX4_placeByChance_65 rfl ?_
          refine lv_iload hx hb dX4_placeByChance_66 (lv_at hl 3 rfl) ?_
          refine lv_irem hx hb dX4_placeByChance_68 (pos_ne (by assumption)) ?_
          refine lv_istore (lv' := [(5, .int (((jUshr dr 33).toInt32) - ((jUshr dr 33).toInt32) / acc * acc)), (0, .ref a), (1, .int len), (2, .long dr), (4, .int acc)]) hx hb dX4_placeByChance_69 hl (by decide) rfl (fun ls hl => ?_)
          refine lv_iconst (v := 0) hx hb dX4_placeByChance_71 (by decide) ?_
          refine lv_istore (lv' := [(6, .int 0), (5, .int (((jUshr dr 33).toInt32) - ((jUshr dr 33).toInt32) / acc * acc)), (0, .ref a), (1, .int len), (2, .long dr), (4, .int acc)]) hx hb dX4_placeByChance_72 hl (by decide) rfl (fun ls hl => ?_)
          have hE_9 : f_X4_placeByChance S len dr = lp_pick S len (80 + 1) 0 (((jUshr dr 33).toInt32) - ((jUshr dr 33).toInt32) / acc * acc) := (hR.trans (by rw [lp_places, if_pos c_7, if_pos c_8]))
          exact loop74 (80 + 1) 0 (((jUshr dr 33).toInt32) - ((jUshr dr 33).toInt32) / acc * acc) (Nat.zero_le _) (by omega) hE_9 _ (lv_sub hl [2, 3, 1, 0] rfl)
        · refine lv_iconst (v := -1) hx hb dX4_placeByChance_59 (by decide) ?_
          have hE : f_X4_placeByChance S len dr = (-1) := (hR.trans (by rw [lp_places, if_pos c_7, if_neg c_8]))
          exact W.iret hx hb hr (fun t ht hW => ⟨by rw [hE], ht⟩) hS.2.2 dX4_placeByChance_60
      · have hlt : k < 80 := kN (B := 80) c_7 (by omega) (by omega)
        refine lv_aload_n hx hb dX4_placeByChance_16 rfl (lv_at hl 0 rfl) ?_
        refine va_get (D := G.1) (ci := 2) (v := .ref (a + 2)) (C := RX4) (T := TX4) (N := 14) hx hb hts hin4 hown hO.1 hP 0 rfl rfl 1 (by decide) hf_15 (fun _ h9 => h9) rfl dX4_placeByChance_17 ?_
        refine lv_iload hx hb dX4_placeByChance_20 (lv_at hl 4 rfl) ?_
        refine iald_n hx hb hO.1 hP 2 0 rfl rfl (by omega) (by decide) dX4_placeByChance_22 ?_
        refine lv_iload_n hx hb dX4_placeByChance_23 rfl (lv_at hl 1 rfl) ?_
        refine lv_aload_n hx hb dX4_placeByChance_24 rfl (lv_at hl 0 rfl) ?_
        refine va_get (D := G.1) (ci := 2) (v := .int (sO S)) (C := RX4) (T := TX4) (N := 14) hx hb hts hin4 hown hO.1 hP 0 rfl rfl 12 (by decide) hf_62 (fun _ h9 => h9) rfl dX4_placeByChance_25 ?_
        refine lv_iadd hx hb dX4_placeByChance_28 ?_
        refine lv_icmp_lt (tgt := 48) hx hb dX4_placeByChance_29 (by decide) (fun c_10 => ?_) (fun c_10 => ?_)
        · refine lv_iinc (v := nI (k + 1)) (lv' := [(5, .int (nI (k + 1))), (0, .ref a), (1, .int len), (2, .long dr), (4, .int acc)]) hx hb dX4_placeByChance_48 hl (k := 4) rfl (nI_1 _) (by decide) rfl (fun ls hl => ?_)
          refine lv_goto (tgt := 6) hx hb dX4_placeByChance_51 (by decide) ?_
          have hE_11 : f_X4_placeByChance S len dr = lp_places S len dr n (k + 1) acc := (hR.trans (by rw [lp_places, if_neg c_7, if_pos c_10]))
          exact ih (k + 1) acc (by omega) (by omega) hE_11 _ (lv_sub hl [1, 2, 3, 4, 0] rfl)
        · refine lv_iload hx hb dX4_placeByChance_32 (lv_at hl 3 rfl) ?_
          refine lv_aload_n hx hb dX4_placeByChance_34 rfl (lv_at hl 0 rfl) ?_
          refine va_get (D := G.1) (ci := 2) (v := .ref (a + 2)) (C := RX4) (T := TX4) (N := 14) hx hb hts hin4 hown hO.1 hP 0 rfl rfl 1 (by decide) hf_15 (fun _ h9 => h9) rfl dX4_placeByChance_35 ?_
          refine lv_iload hx hb dX4_placeByChance_38 (lv_at hl 4 rfl) ?_
          refine iald_n hx hb hO.1 hP 2 0 rfl rfl (by omega) (by decide) dX4_placeByChance_40 ?_
          refine lv_iload_n hx hb dX4_placeByChance_41 rfl (lv_at hl 1 rfl) ?_
          refine lv_isub hx hb dX4_placeByChance_42 ?_
          refine lv_iconst (v := 1) hx hb dX4_placeByChance_43 (by decide) ?_
          refine lv_iadd hx hb dX4_placeByChance_44 ?_
          refine lv_iadd hx hb dX4_placeByChance_45 ?_
          refine lv_istore (lv' := [(4, .int (acc + ((((sG S) k) - len) + 1))), (0, .ref a), (1, .int len), (2, .long dr), (5, .int (nI k))]) hx hb dX4_placeByChance_46 hl (by decide) rfl (fun ls hl => ?_)
          refine lv_iinc (v := nI (k + 1)) (lv' := [(5, .int (nI (k + 1))), (4, .int (acc + ((((sG S) k) - len) + 1))), (0, .ref a), (1, .int len), (2, .long dr)]) hx hb dX4_placeByChance_48 hl (k := 4) rfl (nI_1 _) (by decide) rfl (fun ls hl => ?_)
          refine lv_goto (tgt := 6) hx hb dX4_placeByChance_51 (by decide) ?_
          have hE_12 : f_X4_placeByChance S len dr = lp_places S len dr n (k + 1) (acc + ((((sG S) k) - len) + 1)) := (hR.trans (by rw [lp_places, if_neg c_7, if_neg c_10]))
          exact ih (k + 1) (acc + ((((sG S) k) - len) + 1)) (by omega) (by omega) hE_12 _ (lv_sub hl [2, 3, 4, 1, 0] rfl)
  refine lv_iconst (v := 0) hx hb dX4_placeByChance_0 (by decide) ?_
  refine lv_istore (lv' := [(4, .int 0), (0, .ref a), (1, .int len), (2, .long dr)]) hx hb dX4_placeByChance_1 hl (by decide) rfl (fun ls hl => ?_)
  refine lv_iconst (v := 0) hx hb dX4_placeByChance_3 (by decide) ?_
  refine lv_istore (lv' := [(5, .int 0), (4, .int 0), (0, .ref a), (1, .int len), (2, .long dr)]) hx hb dX4_placeByChance_4 hl (by decide) rfl (fun ls hl => ?_)
  have hE_13 : f_X4_placeByChance S len dr = lp_places S len dr (80 + 1) 0 0 := (by rw [f_X4_placeByChance])
  exact loop6 (80 + 1) 0 0 (Nat.zero_le _) (by omega) hE_13 _ (lv_sub hl [2, 3, 4, 1, 0] rfl)

def lp_fit (S : St) (len : Int32) : Nat → Nat → Int32 → Int32
  | 0, _, _ => 0
  | n + 1, k, acc => if 80 ≤ (nI k) then acc else
    if len ≤ 0 then lp_fit S len n (k + 1) acc else
    if ((sG S) k) < (len + (sO S)) then lp_fit S len n (k + 1) acc else
    lp_fit S len n (k + 1) (acc + ((((sG S) k) - (sO S)) / len))
def f_X4_fittingByGaps (S : St) (len : Int32) : Int32 :=
  lp_fit S len (80 + 1) 0 0
set_option maxHeartbeats 4000000 in
set_option maxRecDepth 100000 in
theorem c_X4_fittingByGaps (l : Launch) (G : GG) (a : Nat) (S : St) (len : Int32) : Met l yX4_fittingByGaps wsX4_fittingByGaps ({ frames := 0, cells := 0, slots := 0, locals := 0 }) (PcH G [.ref a, .int len] (Str G a S)) (QP (some (.int (f_X4_fittingByGaps S len)))) 0 0 noA := by
  refine metH (cc := cX4_fittingByGaps) (maxL := 4) (ret := (some .int)) (by decide) rfl ?_
  intro p e s m below meth cd hx hb hr hml hown hts hlocks hP hO
  have hin4 : ∀ w ∈ u_ws RX4 TX4 14, w ∈ wsX4_fittingByGaps := by decide +kernel
  have hf_15 := hts (.fieldLink RX4 15 "CurbCars$Street" "gapSizes" "[I") (by decide +kernel)
  have hf_62 := hts (.fieldLink RX4 62 "CurbCars$Street" "room" "I") (by decide +kernel)
  have hS : va_S noA s.heap s.heap [] := va_S.rf
  have hl := lv_entry ([.ref a, .int len]) (n := 4) (Nat.le_of_ble_eq_true rfl)
  rw [lg_entry_eq]
  generalize (lg_sl ([.ref a, .int len]) ++ List.replicate (4 - (lg_sl ([.ref a, .int len])).length) Slot.unset).toArray = ls at hl ⊢
  have hl : lv_has ls 4 [(0, .ref a), (1, .int len)] := hl
  have loop4 : ∀ (n : Nat) (k : Nat) (acc : Int32) , k ≤ 80 → k + n = 80 + 1 → f_X4_fittingByGaps S len = lp_fit S len n k acc → ∀ (ls : Array Slot), lv_has ls 4 [(0, .ref a), (1, .int len), (2, .int acc), (3, .int (nI k))] → W p l e (headSpec wsX4_fittingByGaps ({ frames := 0, cells := 0, slots := 0, locals := 0 } : Room)).room s m ([.ref a, .int len] : List Value).toArray below meth cd s.heap [] 0 0 (MQ below (QP (some (.int (f_X4_fittingByGaps S len)))) ([.ref a, .int len] : List Value).toArray s 0 0 noA) (F0 m 4 ls []) := by
    intro n
    induction n with
    | zero =>
      intro k acc hk hn hR ls hl
      exact absurd hn (by omega)
    | succ n ih =>
      intro k acc hk hn hR ls hl
      refine lv_iload_n hx hb dX4_fittingByGaps_4 rfl (lv_at hl 3 rfl) ?_
      refine lv_aload_n hx hb dX4_fittingByGaps_5 rfl (lv_at hl 0 rfl) ?_
      refine va_get (D := G.1) (ci := 2) (v := .ref (a + 2)) (C := RX4) (T := TX4) (N := 14) hx hb hts hin4 hown hO.1 hP 0 rfl rfl 1 (by decide) hf_15 (fun _ h9 => h9) rfl dX4_fittingByGaps_6 ?_
      refine va_alen (ty := .int) (v := 80) hx hb hO.1 hP 2 0 rfl rfl rfl dX4_fittingByGaps_9 ?_
      refine lv_icmp_ge (tgt := 54) hx hb dX4_fittingByGaps_10 (by decide) (fun c_1 => ?_) (fun c_1 => ?_)
      · refine lv_iload_n hx hb dX4_fittingByGaps_54 rfl (lv_at hl 2 rfl) ?_
        have hE : f_X4_fittingByGaps S len = acc := (hR.trans (by rw [lp_fit, if_pos c_1]))
        exact W.iret hx hb hr (fun t ht hW => ⟨by rw [hE], ht⟩) hS.2.2 dX4_fittingByGaps_55
      · have hlt : k < 80 := kN (B := 80) c_1 (by omega) (by omega)
        refine lv_iload_n hx hb dX4_fittingByGaps_13 rfl (lv_at hl 1 rfl) ?_
        refine lv_if_le (tgt := 48) hx hb dX4_fittingByGaps_14 (by decide) (fun c_2 => ?_) (fun c_2 => ?_)
        · refine lv_iinc (v := nI (k + 1)) (lv' := [(3, .int (nI (k + 1))), (0, .ref a), (1, .int len), (2, .int acc)]) hx hb dX4_fittingByGaps_48 hl (k := 3) rfl (nI_1 _) (by decide) rfl (fun ls hl => ?_)
          refine lv_goto (tgt := 4) hx hb dX4_fittingByGaps_51 (by decide) ?_
          have hE_3 : f_X4_fittingByGaps S len = lp_fit S len n (k + 1) acc := (hR.trans (by rw [lp_fit, if_neg c_1, if_pos c_2]))
          exact ih (k + 1) acc (by omega) (by omega) hE_3 _ (lv_sub hl [1, 2, 3, 0] rfl)
        · refine lv_aload_n hx hb dX4_fittingByGaps_17 rfl (lv_at hl 0 rfl) ?_
          refine va_get (D := G.1) (ci := 2) (v := .ref (a + 2)) (C := RX4) (T := TX4) (N := 14) hx hb hts hin4 hown hO.1 hP 0 rfl rfl 1 (by decide) hf_15 (fun _ h9 => h9) rfl dX4_fittingByGaps_18 ?_
          refine lv_iload_n hx hb dX4_fittingByGaps_21 rfl (lv_at hl 3 rfl) ?_
          refine iald_n hx hb hO.1 hP 2 0 rfl rfl (by omega) (by decide) dX4_fittingByGaps_22 ?_
          refine lv_iload_n hx hb dX4_fittingByGaps_23 rfl (lv_at hl 1 rfl) ?_
          refine lv_aload_n hx hb dX4_fittingByGaps_24 rfl (lv_at hl 0 rfl) ?_
          refine va_get (D := G.1) (ci := 2) (v := .int (sO S)) (C := RX4) (T := TX4) (N := 14) hx hb hts hin4 hown hO.1 hP 0 rfl rfl 12 (by decide) hf_62 (fun _ h9 => h9) rfl dX4_fittingByGaps_25 ?_
          refine lv_iadd hx hb dX4_fittingByGaps_28 ?_
          refine lv_icmp_lt (tgt := 48) hx hb dX4_fittingByGaps_29 (by decide) (fun c_4 => ?_) (fun c_4 => ?_)
          · refine lv_iinc (v := nI (k + 1)) (lv' := [(3, .int (nI (k + 1))), (0, .ref a), (1, .int len), (2, .int acc)]) hx hb dX4_fittingByGaps_48 hl (k := 3) rfl (nI_1 _) (by decide) rfl (fun ls hl => ?_)
            refine lv_goto (tgt := 4) hx hb dX4_fittingByGaps_51 (by decide) ?_
            have hE_5 : f_X4_fittingByGaps S len = lp_fit S len n (k + 1) acc := (hR.trans (by rw [lp_fit, if_neg c_1, if_neg c_2, if_pos c_4]))
            exact ih (k + 1) acc (by omega) (by omega) hE_5 _ (lv_sub hl [1, 2, 3, 0] rfl)
          · refine lv_iload_n hx hb dX4_fittingByGaps_32 rfl (lv_at hl 2 rfl) ?_
            refine lv_aload_n hx hb dX4_fittingByGaps_33 rfl (lv_at hl 0 rfl) ?_
            refine va_get (D := G.1) (ci := 2) (v := .ref (a + 2)) (C := RX4) (T := TX4) (N := 14) hx hb hts hin4 hown hO.1 hP 0 rfl rfl 1 (by decide) hf_15 (fun _ h9 => h9) rfl dX4_fittingByGaps_34 ?_
            refine lv_iload_n hx hb dX4_fittingByGaps_37 rfl (lv_at hl 3 rfl) ?_
            refine iald_n hx hb hO.1 hP 2 0 rfl rfl (by omega) (by decide) dX4_fittingByGaps_38 ?_
            refine lv_aload_n hx hb dX4_fittingByGaps_39 rfl (lv_at hl 0 rfl) ?_
            refine va_get (D := G.1) (ci := 2) (v := .int (sO S)) (C := RX4) (T := TX4) (N := 14) hx hb hts hin4 hown hO.1 hP 0 rfl rfl 12 (by decide) hf_62 (fun _ h9 => h9) rfl dX4_fittingByGaps_40 ?_
            refine lv_isub hx hb dX4_fittingByGaps_43 ?_
            refine lv_iload_n hx hb dX4_fittingByGaps_44 rfl (lv_at hl 1 rfl) ?_
            refine lv_idiv hx hb dX4_fittingByGaps_45 (npos_ne (by assumption)) ?_
            refine lv_iadd hx hb dX4_fittingByGaps_46 ?_
            refine lv_istore_n (lv' := [(2, .int (acc + ((((sG S) k) - (sO S)) / len))), (0, .ref a), (1, .int len), (3, .int (nI k))]) hx hb dX4_fittingByGaps_47 rfl hl (by decide) rfl (fun ls hl => ?_)
            refine lv_iinc (v := nI (k + 1)) (lv' := [(3, .int (nI (k + 1))), (2, .int (acc + ((((sG S) k) - (sO S)) / len))), (0, .ref a), (1, .int len)]) hx hb dX4_fittingByGaps_48 hl (k := 3) rfl (nI_1 _) (by decide) rfl (fun ls hl => ?_)
            refine lv_goto (tgt := 4) hx hb dX4_fittingByGaps_51 (by decide) ?_
            have hE_6 : f_X4_fittingByGaps S len = lp_fit S len n (k + 1) (acc + ((((sG S) k) - (sO S)) / len)) := (hR.trans (by rw [lp_fit, if_neg c_1, if_neg c_2, if_neg c_4]))
            exact ih (k + 1) (acc + ((((sG S) k) - (sO S)) / len)) (by omega) (by omega) hE_6 _ (lv_sub hl [2, 3, 1, 0] rfl)
  refine lv_iconst (v := 0) hx hb dX4_fittingByGaps_0 (by decide) ?_
  refine lv_istore_n (lv' := [(2, .int 0), (0, .ref a), (1, .int len)]) hx hb dX4_fittingByGaps_1 rfl hl (by decide) rfl (fun ls hl => ?_)
  refine lv_iconst (v := 0) hx hb dX4_fittingByGaps_2 (by decide) ?_
  refine lv_istore_n (lv' := [(3, .int 0), (2, .int 0), (0, .ref a), (1, .int len)]) hx hb dX4_fittingByGaps_3 rfl hl (by decide) rfl (fun ls hl => ?_)
  have hE_7 : f_X4_fittingByGaps S len = lp_fit S len (80 + 1) 0 0 := (by rw [f_X4_fittingByGaps])
  exact loop4 (80 + 1) 0 0 (Nat.zero_le _) (by omega) hE_7 _ (lv_sub hl [2, 3, 1, 0] rfl)

def f_X4_reasonAgainst (S : St) (len : Int32) : Int32 :=
  if len ≤ (f_X4_longestGap S) then (if (len + (sO S)) ≤ (f_X4_longestGap S) then 0 else
    2) else
  1
set_option maxHeartbeats 4000000 in
set_option maxRecDepth 100000 in
theorem c_X4_reasonAgainst (l : Launch) (G : GG) (a : Nat) (S : St) (len : Int32) : Met l yX4_reasonAgainst wsX4_reasonAgainst ({ frames := 1, cells := 0, slots := 0, locals := 22 }) (PcH G [.ref a, .int len] (Str G a S)) (QP (some (.int (f_X4_reasonAgainst S len)))) 0 0 noA := by
  refine metH (cc := cX4_reasonAgainst) (maxL := 3) (ret := (some .int)) (by decide) rfl ?_
  intro p e s m below meth cd hx hb hr hml hown hts hlocks hP hO
  have hin4 : ∀ w ∈ u_ws RX4 TX4 14, w ∈ wsX4_reasonAgainst := by decide +kernel
  have hf_62 := hts (.fieldLink RX4 62 "CurbCars$Street" "room" "I") (by decide +kernel)
  have hS : va_S noA s.heap s.heap [] := va_S.rf
  have hl := lv_entry ([.ref a, .int len]) (n := 3) (Nat.le_of_ble_eq_true rfl)
  rw [lg_entry_eq]
  generalize (lg_sl ([.ref a, .int len]) ++ List.replicate (3 - (lg_sl ([.ref a, .int len])).length) Slot.unset).toArray = ls at hl ⊢
  have hl : lv_has ls 3 [(0, .ref a), (1, .int len)] := hl
  refine lv_aload_n hx hb dX4_reasonAgainst_0 rfl (lv_at hl 0 rfl) ?_
  refine cl_pi (rV (As := []) (rest := []) ⟨hx, hb, hml, hown, hts⟩ (c_X4_longestGap l G a S) (cwV 0 hts gX4_reasonAgainst_X4_longestGap rfl rfl rfl (by decide +kernel) ⟨Nat.le_of_ble_eq_true rfl, Nat.le_of_ble_eq_true rfl⟩) (st_recv hO hP) hP hO rfl hl.1 (Nat.le_of_ble_eq_true rfl) dX4_reasonAgainst_1 ⟨Nat.le_of_ble_eq_true rfl, Nat.le_of_ble_eq_true rfl⟩) ?_
  refine lv_istore_n (lv' := [(2, .int (f_X4_longestGap S)), (0, .ref a), (1, .int len)]) hx hb dX4_reasonAgainst_4 rfl hl (by decide) rfl (fun ls hl => ?_)
  refine lv_iload_n hx hb dX4_reasonAgainst_5 rfl (lv_at hl 0 rfl) ?_
  refine lv_iload_n hx hb dX4_reasonAgainst_6 rfl (lv_at hl 2 rfl) ?_
  refine lv_icmp_ge (tgt := 12) hx hb dX4_reasonAgainst_7 (by decide) (fun c_1 => ?_) (fun c_1 => ?_)
  · refine lv_iload_n hx hb dX4_reasonAgainst_12 rfl (lv_at hl 0 rfl) ?_
    refine lv_iload_n hx hb dX4_reasonAgainst_13 rfl (lv_at hl 2 rfl) ?_
    refine lv_aload_n hx hb dX4_reasonAgainst_14 rfl (lv_at hl 1 rfl) ?_
    refine va_get (D := G.1) (ci := 2) (v := .int (sO S)) (C := RX4) (T := TX4) (N := 14) hx hb hts hin4 hown hO.1 hP 0 rfl rfl 12 (by decide) hf_62 (fun _ h9 => h9) rfl dX4_reasonAgainst_15 ?_
    refine lv_iadd hx hb dX4_reasonAgainst_18 ?_
    refine lv_icmp_ge (tgt := 26) hx hb dX4_reasonAgainst_19 (by decide) (fun c_2 => ?_) (fun c_2 => ?_)
    · refine lv_iconst (v := 0) hx hb dX4_reasonAgainst_26 (by decide) ?_
      have hE : f_X4_reasonAgainst S len = 0 := (by rw [f_X4_reasonAgainst, if_pos c_1, if_pos c_2])
      exact W.iret hx hb hr (fun t ht hW => ⟨by rw [hE], ht⟩) hS.2.2 dX4_reasonAgainst_27
    · refine lv_iconst (v := 2) hx hb dX4_reasonAgainst_22 (by decide) ?_
      refine lv_goto (tgt := 27) hx hb dX4_reasonAgainst_23 (by decide) ?_
      have hE : f_X4_reasonAgainst S len = 2 := (by rw [f_X4_reasonAgainst, if_pos c_1, if_neg c_2])
      exact W.iret hx hb hr (fun t ht hW => ⟨by rw [hE], ht⟩) hS.2.2 dX4_reasonAgainst_27
  · refine lv_iconst (v := 1) hx hb dX4_reasonAgainst_10 (by decide) ?_
    have hE : f_X4_reasonAgainst S len = 1 := (by rw [f_X4_reasonAgainst, if_neg c_1])
    exact W.iret hx hb hr (fun t ht hW => ⟨by rw [hE], ht⟩) hS.2.2 dX4_reasonAgainst_11

def f_X4_chosenPlace (S : St) (len : Int32) : Int32 :=
  if (sU S) = 2 then f_X4_placeByChance S len (f_X6_nextChance (sH S)) else
  if (sU S) = 1 then f_X4_shortestGapFor S len else
  f_X4_lowestGapFor S len
set_option maxHeartbeats 4000000 in
set_option maxRecDepth 100000 in
theorem c_X4_chosenPlace (l : Launch) (G : GG) (a : Nat) (S : St) (len : Int32) : Met l yX4_chosenPlace wsX4_chosenPlace ({ frames := 1, cells := 0, slots := 0, locals := 27 }) (PcH G [.ref a, .int len] (Str G a S)) (QP (some (.int (f_X4_chosenPlace S len)))) 0 0 noA := by
  refine metH (cc := cX4_chosenPlace) (maxL := 2) (ret := (some .int)) (by decide) rfl ?_
  intro p e s m below meth cd hx hb hr hml hown hts hlocks hP hO
  have hin4 : ∀ w ∈ u_ws RX4 TX4 14, w ∈ wsX4_chosenPlace := by decide +kernel
  have hf_55 := hts (.fieldLink RX4 55 "CurbCars$Street" "chance" "J") (by decide +kernel)
  have hf_59 := hts (.fieldLink RX4 59 "CurbCars$Street" "rule" "I") (by decide +kernel)
  have hS : va_S noA s.heap s.heap [] := va_S.rf
  have hl := lv_entry ([.ref a, .int len]) (n := 2) (Nat.le_of_ble_eq_true rfl)
  rw [lg_entry_eq]
  generalize (lg_sl ([.ref a, .int len]) ++ List.replicate (2 - (lg_sl ([.ref a, .int len])).length) Slot.unset).toArray = ls at hl ⊢
  have hl : lv_has ls 2 [(0, .ref a), (1, .int len)] := hl
  refine lv_aload_n hx hb dX4_chosenPlace_0 rfl (lv_at hl 0 rfl) ?_
  refine va_get (D := G.1) (ci := 2) (v := .int (sU S)) (C := RX4) (T := TX4) (N := 14) hx hb hts hin4 hown hO.1 hP 0 rfl rfl 11 (by decide) hf_59 (fun _ h9 => h9) rfl dX4_chosenPlace_1 ?_
  refine lv_iconst (v := 2) hx hb dX4_chosenPlace_4 (by decide) ?_
  refine lv_icmp_ne (tgt := 21) hx hb dX4_chosenPlace_5 (by decide) (fun c_1 => ?_) (fun c_1 => ?_)
  · refine lv_aload_n hx hb dX4_chosenPlace_21 rfl (lv_at hl 0 rfl) ?_
    refine va_get (D := G.1) (ci := 2) (v := .int (sU S)) (C := RX4) (T := TX4) (N := 14) hx hb hts hin4 hown hO.1 hP 0 rfl rfl 11 (by decide) hf_59 (fun _ h9 => h9) rfl dX4_chosenPlace_22 ?_
    refine lv_iconst (v := 1) hx hb dX4_chosenPlace_25 (by decide) ?_
    refine lv_icmp_ne (tgt := 37) hx hb dX4_chosenPlace_26 (by decide) (fun c_2 => ?_) (fun c_2 => ?_)
    · refine lv_aload_n hx hb dX4_chosenPlace_37 rfl (lv_at hl 0 rfl) ?_
      refine lv_iload_n hx hb dX4_chosenPlace_38 rfl (lv_at hl 1 rfl) ?_
      refine cl_pi (rV (As := [.int len]) (rest := []) ⟨hx, hb, hml, hown, hts⟩ (c_X4_lowestGapFor l G a S len) (cwV 1 hts gX4_chosenPlace_X4_lowestGapFor rfl rfl rfl (by decide +kernel) ⟨Nat.le_of_ble_eq_true rfl, Nat.le_of_ble_eq_true rfl⟩) (st_recv hO hP) hP hO rfl hl.1 (Nat.le_of_ble_eq_true rfl) dX4_chosenPlace_39 ⟨Nat.le_of_ble_eq_true rfl, Nat.le_of_ble_eq_true rfl⟩) ?_
      have hE : f_X4_chosenPlace S len = f_X4_lowestGapFor S len := (by rw [f_X4_chosenPlace, if_neg c_1, if_neg c_2])
      exact W.iret hx hb hr (fun t ht hW => ⟨by rw [hE], ht⟩) hS.2.2 dX4_chosenPlace_42
    · refine lv_aload_n hx hb dX4_chosenPlace_29 rfl (lv_at hl 0 rfl) ?_
      refine lv_iload_n hx hb dX4_chosenPlace_30 rfl (lv_at hl 1 rfl) ?_
      refine cl_pi (rV (As := [.int len]) (rest := []) ⟨hx, hb, hml, hown, hts⟩ (c_X4_shortestGapFor l G a S len) (cwV 1 hts gX4_chosenPlace_X4_shortestGapFor rfl rfl rfl (by decide +kernel) ⟨Nat.le_of_ble_eq_true rfl, Nat.le_of_ble_eq_true rfl⟩) (st_recv hO hP) hP hO rfl hl.1 (Nat.le_of_ble_eq_true rfl) dX4_chosenPlace_31 ⟨Nat.le_of_ble_eq_true rfl, Nat.le_of_ble_eq_true rfl⟩) ?_
      refine lv_goto (tgt := 42) hx hb dX4_chosenPlace_34 (by decide) ?_
      have hE : f_X4_chosenPlace S len = f_X4_shortestGapFor S len := (by rw [f_X4_chosenPlace, if_neg c_1, if_pos c_2])
      exact W.iret hx hb hr (fun t ht hW => ⟨by rw [hE], ht⟩) hS.2.2 dX4_chosenPlace_42
  · refine lv_aload_n hx hb dX4_chosenPlace_8 rfl (lv_at hl 0 rfl) ?_
    refine lv_iload_n hx hb dX4_chosenPlace_9 rfl (lv_at hl 1 rfl) ?_
    refine lv_aload_n hx hb dX4_chosenPlace_10 rfl (lv_at hl 0 rfl) ?_
    refine va_get (D := G.1) (ci := 2) (v := .long (sH S)) (C := RX4) (T := TX4) (N := 14) hx hb hts hin4 hown hO.1 hP 0 rfl rfl 10 (by decide) hf_55 (fun _ h9 => h9) rfl dX4_chosenPlace_11 ?_
    refine cl_pl (rSN (As := [.long (sH S)]) (rest := [.int len, .ref a]) ⟨hx, hb, hml, hown, hts⟩ (c_X6_nextChance l G (sH S)) ⟨va_cnB 1 hts gX4_chosenPlace_X6_nextChance_n96 rfl rfl rfl (hO.2 _ (List.mem_of_getElem? (i := 34) rfl)) (hts (.initialized RX6) (by decide +kernel)) (by decide +kernel) ⟨Nat.le_of_ble_eq_true rfl, Nat.le_of_ble_eq_true rfl⟩, hts (.static yX6_nextChance) (by decide +kernel), trivial⟩ trivial hO rfl hl.1 (Nat.le_of_ble_eq_true rfl) dX4_chosenPlace_14 ⟨Nat.le_of_ble_eq_true rfl, Nat.le_of_ble_eq_true rfl⟩) ?_
    refine cl_pi (rV (As := [.int len, .long (f_X6_nextChance (sH S))]) (rest := []) ⟨hx, hb, hml, hown, hts⟩ (c_X4_placeByChance l G a S len (f_X6_nextChance (sH S))) (cwV 2 hts gX4_chosenPlace_X4_placeByChance rfl rfl rfl (by decide +kernel) ⟨Nat.le_of_ble_eq_true rfl, Nat.le_of_ble_eq_true rfl⟩) (st_recv hO hP) hP hO rfl hl.1 (Nat.le_of_ble_eq_true rfl) dX4_chosenPlace_17 ⟨Nat.le_of_ble_eq_true rfl, Nat.le_of_ble_eq_true rfl⟩) ?_
    have hE : f_X4_chosenPlace S len = f_X4_placeByChance S len (f_X6_nextChance (sH S)) := (by rw [f_X4_chosenPlace, if_pos c_1])
    exact W.iret hx hb hr (fun t ht hW => ⟨by rw [hE], ht⟩) hS.2.2 dX4_chosenPlace_20

def h_X4_useChance (S : St) : St :=
  if (sU S) = 2 then (wH S (f_X6_nextChance (sH S))) else
  S
set_option maxHeartbeats 4000000 in
set_option maxRecDepth 100000 in
theorem c_X4_useChance (l : Launch) (G : GG) (a : Nat) (S : St) : Met l yX4_useChance wsX4_useChance ({ frames := 1, cells := 0, slots := 0, locals := 21 }) (PcH G [.ref a] (Str G a S)) (QM none (Str G a (h_X4_useChance S)) (blk a (a + 9))) 0 0 (blk a (a + 9)) := by
  refine metH (cc := cX4_useChance) (maxL := 1) (ret := none) (by decide) rfl ?_
  intro p e s m below meth cd hx hb hr hml hown hts hlocks hP hO
  have hin4 : ∀ w ∈ u_ws RX4 TX4 14, w ∈ wsX4_useChance := by decide +kernel
  have hf_55 := hts (.fieldLink RX4 55 "CurbCars$Street" "chance" "J") (by decide +kernel)
  have hf_59 := hts (.fieldLink RX4 59 "CurbCars$Street" "rule" "I") (by decide +kernel)
  have hA : ∀ q, (blk a (a + 9)) q → (blk a (a + 9)) q := fun _ h => h
  have hS : va_S (blk a (a + 9)) s.heap s.heap [] := va_S.rf
  have hl := lv_entry ([.ref a]) (n := 1) (Nat.le_of_ble_eq_true rfl)
  rw [lg_entry_eq]
  generalize (lg_sl ([.ref a]) ++ List.replicate (1 - (lg_sl ([.ref a])).length) Slot.unset).toArray = ls at hl ⊢
  have hl : lv_has ls 1 [(0, .ref a)] := hl
  refine lv_aload_n hx hb dX4_useChance_0 rfl (lv_at hl 0 rfl) ?_
  refine va_get (D := G.1) (ci := 2) (v := .int (sU S)) (C := RX4) (T := TX4) (N := 14) hx hb hts hin4 hown hO.1 hP 0 rfl rfl 11 (by decide) hf_59 (fun _ h9 => h9) rfl dX4_useChance_1 ?_
  refine lv_iconst (v := 2) hx hb dX4_useChance_4 (by decide) ?_
  refine lv_icmp_ne (tgt := 19) hx hb dX4_useChance_5 (by decide) (fun c_1 => ?_) (fun c_1 => ?_)
  · have hE : h_X4_useChance S = S := (by rw [h_X4_useChance, if_neg c_1])
    exact W.vret hx hb hr (fun t ht hW => ⟨rfl, by rw [ht, hE]; exact hP, hS.F ht⟩) hS.2.2 dX4_useChance_19
  · refine lv_aload_n hx hb dX4_useChance_8 rfl (lv_at hl 0 rfl) ?_
    refine lv_aload_n hx hb dX4_useChance_9 rfl (lv_at hl 0 rfl) ?_
    refine va_get (D := G.1) (ci := 2) (v := .long (sH S)) (C := RX4) (T := TX4) (N := 14) hx hb hts hin4 hown hO.1 hP 0 rfl rfl 10 (by decide) hf_55 (fun _ h9 => h9) rfl dX4_useChance_10 ?_
    refine cl_pl (rSN (As := [.long (sH S)]) (rest := [.ref a]) ⟨hx, hb, hml, hown, hts⟩ (c_X6_nextChance l G (sH S)) ⟨va_cnB 1 hts gX4_useChance_X6_nextChance_n96 rfl rfl rfl (hO.2 _ (List.mem_of_getElem? (i := 34) rfl)) (hts (.initialized RX6) (by decide +kernel)) (by decide +kernel) ⟨Nat.le_of_ble_eq_true rfl, Nat.le_of_ble_eq_true rfl⟩, hts (.static yX6_nextChance) (by decide +kernel), trivial⟩ trivial hO rfl hl.1 (Nat.le_of_ble_eq_true rfl) dX4_useChance_13 ⟨Nat.le_of_ble_eq_true rfl, Nat.le_of_ble_eq_true rfl⟩) ?_
    refine va_put (D := G.1) (ci := 2) (v := .long (f_X6_nextChance (sH S))) (ty := .long) (C := RX4) (T := TX4) (N := 14) hx hb hts hin4 tyX4 tyX4_ok nmX4 hown hO.1 hP (st_D a S hA) hS 0 rfl rfl 10 (by decide) hf_55 (fun _ h9 => h9) rfl (by decide +kernel) rfl rfl (Nat.le_of_ble_eq_true rfl) dX4_useChance_16 (fun H locs hP hD hS => ?_)
    have hP : Str G a (wH S (f_X6_nextChance (sH S))) H := st_pH hP
    have hE : h_X4_useChance S = (wH S (f_X6_nextChance (sH S))) := (by rw [h_X4_useChance, if_pos c_1])
    exact W.vret hx hb hr (fun t ht hW => ⟨rfl, by rw [ht, hE]; exact hP, hS.F ht⟩) hS.2.2 dX4_useChance_19

def f_X4_isCar (S : St) (c : Int32) : Int32 :=
  if c < 0 then 0 else
  if (sN S) ≤ c then 0 else
  1
set_option maxHeartbeats 4000000 in
set_option maxRecDepth 100000 in
theorem c_X4_isCar (l : Launch) (G : GG) (a : Nat) (S : St) (c : Int32) : Met l yX4_isCar wsX4_isCar ({ frames := 0, cells := 0, slots := 0, locals := 0 }) (PcH G [.ref a, .int c] (Str G a S)) (QP (some (.int (f_X4_isCar S c)))) 0 0 noA := by
  refine metH (cc := cX4_isCar) (maxL := 2) (ret := (some .boolean)) (by decide) rfl ?_
  intro p e s m below meth cd hx hb hr hml hown hts hlocks hP hO
  have hin4 : ∀ w ∈ u_ws RX4 TX4 14, w ∈ wsX4_isCar := by decide +kernel
  have hf_48 := hts (.fieldLink RX4 48 "CurbCars$Street" "came" "I") (by decide +kernel)
  have hS : va_S noA s.heap s.heap [] := va_S.rf
  have hl := lv_entry ([.ref a, .int c]) (n := 2) (Nat.le_of_ble_eq_true rfl)
  rw [lg_entry_eq]
  generalize (lg_sl ([.ref a, .int c]) ++ List.replicate (2 - (lg_sl ([.ref a, .int c])).length) Slot.unset).toArray = ls at hl ⊢
  have hl : lv_has ls 2 [(0, .ref a), (1, .int c)] := hl
  refine lv_iload_n hx hb dX4_isCar_0 rfl (lv_at hl 1 rfl) ?_
  refine lv_if_lt (tgt := 16) hx hb dX4_isCar_1 (by decide) (fun c_1 => ?_) (fun c_1 => ?_)
  · refine lv_iconst (v := 0) hx hb dX4_isCar_16 (by decide) ?_
    have hE : f_X4_isCar S c = 0 := (by rw [f_X4_isCar, if_pos c_1])
    exact W.zret (ty := .boolean) hx hb hr rfl (fun t ht hW => ⟨by rw [hE], ht⟩) hS.2.2 dX4_isCar_17
  · refine lv_iload_n hx hb dX4_isCar_4 rfl (lv_at hl 1 rfl) ?_
    refine lv_aload_n hx hb dX4_isCar_5 rfl (lv_at hl 0 rfl) ?_
    refine va_get (D := G.1) (ci := 2) (v := .int (sN S)) (C := RX4) (T := TX4) (N := 14) hx hb hts hin4 hown hO.1 hP 0 rfl rfl 8 (by decide) hf_48 (fun _ h9 => h9) rfl dX4_isCar_6 ?_
    refine lv_icmp_ge (tgt := 16) hx hb dX4_isCar_9 (by decide) (fun c_2 => ?_) (fun c_2 => ?_)
    · refine lv_iconst (v := 0) hx hb dX4_isCar_16 (by decide) ?_
      have hE : f_X4_isCar S c = 0 := (by rw [f_X4_isCar, if_neg c_1, if_pos c_2])
      exact W.zret (ty := .boolean) hx hb hr rfl (fun t ht hW => ⟨by rw [hE], ht⟩) hS.2.2 dX4_isCar_17
    · refine lv_iconst (v := 1) hx hb dX4_isCar_12 (by decide) ?_
      refine lv_goto (tgt := 17) hx hb dX4_isCar_13 (by decide) ?_
      have hE : f_X4_isCar S c = 1 := (by rw [f_X4_isCar, if_neg c_1, if_neg c_2])
      exact W.zret (ty := .boolean) hx hb hr rfl (fun t ht hW => ⟨by rw [hE], ht⟩) hS.2.2 dX4_isCar_17

theorem b_f_X4_isCar (S : St) (c : Int32) : f_X4_isCar S c = 0 ∨ f_X4_isCar S c = 1 := by
  unfold f_X4_isCar
  repeat (first | exact Or.inl rfl | exact Or.inr rfl | split)

def f_X4_isParked (S : St) (c : Int32) : Int32 :=
  if (f_X4_isCar S c) = 0 then 0 else
  if (f_X6_get 40 (sT S) c) = 0 then 1 else
  0
set_option maxHeartbeats 4000000 in
set_option maxRecDepth 100000 in
theorem c_X4_isParked (l : Launch) (G : GG) (a : Nat) (S : St) (c : Int32) : Met l yX4_isParked wsX4_isParked ({ frames := 1, cells := 0, slots := 0, locals := 21 }) (PcH G [.ref a, .int c] (Str G a S)) (QP (some (.int (f_X4_isParked S c)))) 0 0 noA := by
  refine metH (cc := cX4_isParked) (maxL := 2) (ret := (some .boolean)) (by decide) rfl ?_
  intro p e s m below meth cd hx hb hr hml hown hts hlocks hP hO
  have hin4 : ∀ w ∈ u_ws RX4 TX4 14, w ∈ wsX4_isParked := by decide +kernel
  have hf_24 := hts (.fieldLink RX4 24 "CurbCars$Street" "states" "[I") (by decide +kernel)
  have hS : va_S noA s.heap s.heap [] := va_S.rf
  have hl := lv_entry ([.ref a, .int c]) (n := 2) (Nat.le_of_ble_eq_true rfl)
  rw [lg_entry_eq]
  generalize (lg_sl ([.ref a, .int c]) ++ List.replicate (2 - (lg_sl ([.ref a, .int c])).length) Slot.unset).toArray = ls at hl ⊢
  have hl : lv_has ls 2 [(0, .ref a), (1, .int c)] := hl
  refine lv_aload_n hx hb dX4_isParked_0 rfl (lv_at hl 0 rfl) ?_
  refine lv_iload_n hx hb dX4_isParked_1 rfl (lv_at hl 1 rfl) ?_
  refine cl_pi (rV (As := [.int c]) (rest := []) ⟨hx, hb, hml, hown, hts⟩ (c_X4_isCar l G a S c) (cwV 1 hts gX4_isParked_X4_isCar rfl rfl rfl (by decide +kernel) ⟨Nat.le_of_ble_eq_true rfl, Nat.le_of_ble_eq_true rfl⟩) (st_recv hO hP) hP hO rfl hl.1 (Nat.le_of_ble_eq_true rfl) dX4_isParked_2 ⟨Nat.le_of_ble_eq_true rfl, Nat.le_of_ble_eq_true rfl⟩) ?_
  refine lv_if_eq (tgt := 23) hx hb dX4_isParked_5 (by decide) (fun c_1 => ?_) (fun c_1 => ?_)
  · refine lv_iconst (v := 0) hx hb dX4_isParked_23 (by decide) ?_
    have hE : f_X4_isParked S c = 0 := (by rw [f_X4_isParked, if_pos c_1])
    exact W.zret (ty := .boolean) hx hb hr rfl (fun t ht hW => ⟨by rw [hE], ht⟩) hS.2.2 dX4_isParked_24
  · refine lv_aload_n hx hb dX4_isParked_8 rfl (lv_at hl 0 rfl) ?_
    refine va_get (D := G.1) (ci := 2) (v := .ref (a + 5)) (C := RX4) (T := TX4) (N := 14) hx hb hts hin4 hown hO.1 hP 0 rfl rfl 4 (by decide) hf_24 (fun _ h9 => h9) rfl dX4_isParked_9 ?_
    refine lv_iload_n hx hb dX4_isParked_12 rfl (lv_at hl 1 rfl) ?_
    refine cl_pi (rSN (As := [.ref (a + 5), .int c]) (rest := []) ⟨hx, hb, hml, hown, hts⟩ (c_X6_get l G (a + 5) 40 (sT S) c (by decide)) ⟨va_cnB 2 hts gX4_isParked_X6_get_n84 rfl rfl rfl (hO.2 _ (List.mem_of_getElem? (i := 29) rfl)) (hts (.initialized RX6) (by decide +kernel)) (by decide +kernel) ⟨Nat.le_of_ble_eq_true rfl, Nat.le_of_ble_eq_true rfl⟩, hts (.static yX6_get) (by decide +kernel), trivial⟩ (va_P.sub hP [5] rfl) hO rfl hl.1 (Nat.le_of_ble_eq_true rfl) dX4_isParked_13 ⟨Nat.le_of_ble_eq_true rfl, Nat.le_of_ble_eq_true rfl⟩) ?_
    refine lv_if_ne (tgt := 23) hx hb dX4_isParked_16 (by decide) (fun c_2 => ?_) (fun c_2 => ?_)
    · refine lv_iconst (v := 0) hx hb dX4_isParked_23 (by decide) ?_
      have hE : f_X4_isParked S c = 0 := (by rw [f_X4_isParked, if_neg c_1, if_neg c_2])
      exact W.zret (ty := .boolean) hx hb hr rfl (fun t ht hW => ⟨by rw [hE], ht⟩) hS.2.2 dX4_isParked_24
    · refine lv_iconst (v := 1) hx hb dX4_isParked_19 (by decide) ?_
      refine lv_goto (tgt := 24) hx hb dX4_isParked_20 (by decide) ?_
      have hE : f_X4_isParked S c = 1 := (by rw [f_X4_isParked, if_neg c_1, if_pos c_2])
      exact W.zret (ty := .boolean) hx hb hr rfl (fun t ht hW => ⟨by rw [hE], ht⟩) hS.2.2 dX4_isParked_24

theorem b_f_X4_isParked (S : St) (c : Int32) : f_X4_isParked S c = 0 ∨ f_X4_isParked S c = 1 := by
  unfold f_X4_isParked
  repeat (first | exact Or.inl rfl | exact Or.inr rfl | split)

def f_X4_allCame (S : St) : Int32 :=
  if (sN S) < 40 then 0 else
  1
set_option maxHeartbeats 4000000 in
set_option maxRecDepth 100000 in
theorem c_X4_allCame (l : Launch) (G : GG) (a : Nat) (S : St) : Met l yX4_allCame wsX4_allCame ({ frames := 0, cells := 0, slots := 0, locals := 0 }) (PcH G [.ref a] (Str G a S)) (QP (some (.int (f_X4_allCame S)))) 0 0 noA := by
  refine metH (cc := cX4_allCame) (maxL := 1) (ret := (some .boolean)) (by decide) rfl ?_
  intro p e s m below meth cd hx hb hr hml hown hts hlocks hP hO
  have hin4 : ∀ w ∈ u_ws RX4 TX4 14, w ∈ wsX4_allCame := by decide +kernel
  have hf_48 := hts (.fieldLink RX4 48 "CurbCars$Street" "came" "I") (by decide +kernel)
  have hS : va_S noA s.heap s.heap [] := va_S.rf
  have hl := lv_entry ([.ref a]) (n := 1) (Nat.le_of_ble_eq_true rfl)
  rw [lg_entry_eq]
  generalize (lg_sl ([.ref a]) ++ List.replicate (1 - (lg_sl ([.ref a])).length) Slot.unset).toArray = ls at hl ⊢
  have hl : lv_has ls 1 [(0, .ref a)] := hl
  refine lv_aload_n hx hb dX4_allCame_0 rfl (lv_at hl 0 rfl) ?_
  refine va_get (D := G.1) (ci := 2) (v := .int (sN S)) (C := RX4) (T := TX4) (N := 14) hx hb hts hin4 hown hO.1 hP 0 rfl rfl 8 (by decide) hf_48 (fun _ h9 => h9) rfl dX4_allCame_1 ?_
  refine lv_bipush (v := 40) hx hb dX4_allCame_4 (by decide) ?_
  refine lv_icmp_lt (tgt := 13) hx hb dX4_allCame_6 (by decide) (fun c_1 => ?_) (fun c_1 => ?_)
  · refine lv_iconst (v := 0) hx hb dX4_allCame_13 (by decide) ?_
    have hE : f_X4_allCame S = 0 := (by rw [f_X4_allCame, if_pos c_1])
    exact W.zret (ty := .boolean) hx hb hr rfl (fun t ht hW => ⟨by rw [hE], ht⟩) hS.2.2 dX4_allCame_14
  · refine lv_iconst (v := 1) hx hb dX4_allCame_9 (by decide) ?_
    refine lv_goto (tgt := 14) hx hb dX4_allCame_10 (by decide) ?_
    have hE : f_X4_allCame S = 1 := (by rw [f_X4_allCame, if_neg c_1])
    exact W.zret (ty := .boolean) hx hb hr rfl (fun t ht hW => ⟨by rw [hE], ht⟩) hS.2.2 dX4_allCame_14

theorem b_f_X4_allCame (S : St) : f_X4_allCame S = 0 ∨ f_X4_allCame S = 1 := by
  unfold f_X4_allCame
  repeat (first | exact Or.inl rfl | exact Or.inr rfl | split)

def lp_carsIn (S : St) (sta : Int32) : Nat → Nat → Int32 → Int32
  | 0, _, _ => 0
  | n + 1, k, acc => if (sN S) ≤ (nI k) then acc else
    if (f_X6_get 40 (sT S) (nI k)) = sta then lp_carsIn S sta n (k + 1) (acc + 1) else
    lp_carsIn S sta n (k + 1) acc
def f_X4_carsInState (S : St) (sta : Int32) : Int32 :=
  lp_carsIn S sta ((sN S).toNatClampNeg + 1) 0 0
set_option maxHeartbeats 4000000 in
set_option maxRecDepth 100000 in
theorem c_X4_carsInState (l : Launch) (G : GG) (a : Nat) (S : St) (sta : Int32) : Met l yX4_carsInState wsX4_carsInState ({ frames := 1, cells := 0, slots := 0, locals := 21 }) (PcH G [.ref a, .int sta] (Str G a S)) (QP (some (.int (f_X4_carsInState S sta)))) 0 0 noA := by
  refine metH (cc := cX4_carsInState) (maxL := 4) (ret := (some .int)) (by decide) rfl ?_
  intro p e s m below meth cd hx hb hr hml hown hts hlocks hP hO
  have hin4 : ∀ w ∈ u_ws RX4 TX4 14, w ∈ wsX4_carsInState := by decide +kernel
  have hf_24 := hts (.fieldLink RX4 24 "CurbCars$Street" "states" "[I") (by decide +kernel)
  have hf_48 := hts (.fieldLink RX4 48 "CurbCars$Street" "came" "I") (by decide +kernel)
  have hS : va_S noA s.heap s.heap [] := va_S.rf
  have hl := lv_entry ([.ref a, .int sta]) (n := 4) (Nat.le_of_ble_eq_true rfl)
  rw [lg_entry_eq]
  generalize (lg_sl ([.ref a, .int sta]) ++ List.replicate (4 - (lg_sl ([.ref a, .int sta])).length) Slot.unset).toArray = ls at hl ⊢
  have hl : lv_has ls 4 [(0, .ref a), (1, .int sta)] := hl
  have loop4 : ∀ (n : Nat) (k : Nat) (acc : Int32) , k ≤ (sN S).toNatClampNeg → k + n = (sN S).toNatClampNeg + 1 → f_X4_carsInState S sta = lp_carsIn S sta n k acc → ∀ (ls : Array Slot), lv_has ls 4 [(0, .ref a), (1, .int sta), (2, .int acc), (3, .int (nI k))] → W p l e (headSpec wsX4_carsInState ({ frames := 1, cells := 0, slots := 0, locals := 21 } : Room)).room s m ([.ref a, .int sta] : List Value).toArray below meth cd s.heap [] 0 0 (MQ below (QP (some (.int (f_X4_carsInState S sta)))) ([.ref a, .int sta] : List Value).toArray s 0 0 noA) (F0 m 4 ls []) := by
    intro n
    induction n with
    | zero =>
      intro k acc hk hn hR ls hl
      exact absurd hn (by omega)
    | succ n ih =>
      intro k acc hk hn hR ls hl
      refine lv_iload_n hx hb dX4_carsInState_4 rfl (lv_at hl 3 rfl) ?_
      refine lv_aload_n hx hb dX4_carsInState_5 rfl (lv_at hl 0 rfl) ?_
      refine va_get (D := G.1) (ci := 2) (v := .int (sN S)) (C := RX4) (T := TX4) (N := 14) hx hb hts hin4 hown hO.1 hP 0 rfl rfl 8 (by decide) hf_48 (fun _ h9 => h9) rfl dX4_carsInState_6 ?_
      refine lv_icmp_ge (tgt := 33) hx hb dX4_carsInState_9 (by decide) (fun c_1 => ?_) (fun c_1 => ?_)
      · refine lv_iload_n hx hb dX4_carsInState_33 rfl (lv_at hl 2 rfl) ?_
        have hE : f_X4_carsInState S sta = acc := (hR.trans (by rw [lp_carsIn, if_pos c_1]))
        exact W.iret hx hb hr (fun t ht hW => ⟨by rw [hE], ht⟩) hS.2.2 dX4_carsInState_34
      · have hlt : k < (sN S).toNatClampNeg := (by have h8 := clamp_lt (sN S); exact kV c_1 (by omega))
        refine lv_aload_n hx hb dX4_carsInState_12 rfl (lv_at hl 0 rfl) ?_
        refine va_get (D := G.1) (ci := 2) (v := .ref (a + 5)) (C := RX4) (T := TX4) (N := 14) hx hb hts hin4 hown hO.1 hP 0 rfl rfl 4 (by decide) hf_24 (fun _ h9 => h9) rfl dX4_carsInState_13 ?_
        refine lv_iload_n hx hb dX4_carsInState_16 rfl (lv_at hl 3 rfl) ?_
        refine cl_pi (rSN (As := [.ref (a + 5), .int (nI k)]) (rest := []) ⟨hx, hb, hml, hown, hts⟩ (c_X6_get l G (a + 5) 40 (sT S) (nI k) (by decide)) ⟨va_cnB 2 hts gX4_carsInState_X6_get_n84 rfl rfl rfl (hO.2 _ (List.mem_of_getElem? (i := 29) rfl)) (hts (.initialized RX6) (by decide +kernel)) (by decide +kernel) ⟨Nat.le_of_ble_eq_true rfl, Nat.le_of_ble_eq_true rfl⟩, hts (.static yX6_get) (by decide +kernel), trivial⟩ (va_P.sub hP [5] rfl) hO rfl hl.1 (Nat.le_of_ble_eq_true rfl) dX4_carsInState_17 ⟨Nat.le_of_ble_eq_true rfl, Nat.le_of_ble_eq_true rfl⟩) ?_
        refine lv_iload_n hx hb dX4_carsInState_20 rfl (lv_at hl 1 rfl) ?_
        refine lv_icmp_ne (tgt := 27) hx hb dX4_carsInState_21 (by decide) (fun c_2 => ?_) (fun c_2 => ?_)
        · refine lv_iinc (v := nI (k + 1)) (lv' := [(3, .int (nI (k + 1))), (0, .ref a), (1, .int sta), (2, .int acc)]) hx hb dX4_carsInState_27 hl (k := 3) rfl (nI_1 _) (by decide) rfl (fun ls hl => ?_)
          refine lv_goto (tgt := 4) hx hb dX4_carsInState_30 (by decide) ?_
          have hE_3 : f_X4_carsInState S sta = lp_carsIn S sta n (k + 1) acc := (hR.trans (by rw [lp_carsIn, if_neg c_1, if_neg c_2]))
          exact ih (k + 1) acc (by omega) (by omega) hE_3 _ (lv_sub hl [1, 2, 3, 0] rfl)
        · refine lv_iinc (v := acc + 1) (lv' := [(2, .int (acc + 1)), (0, .ref a), (1, .int sta), (3, .int (nI k))]) hx hb dX4_carsInState_24 hl (k := 2) rfl rfl (by decide) rfl (fun ls hl => ?_)
          refine lv_iinc (v := nI (k + 1)) (lv' := [(3, .int (nI (k + 1))), (2, .int (acc + 1)), (0, .ref a), (1, .int sta)]) hx hb dX4_carsInState_27 hl (k := 3) rfl (nI_1 _) (by decide) rfl (fun ls hl => ?_)
          refine lv_goto (tgt := 4) hx hb dX4_carsInState_30 (by decide) ?_
          have hE_4 : f_X4_carsInState S sta = lp_carsIn S sta n (k + 1) (acc + 1) := (hR.trans (by rw [lp_carsIn, if_neg c_1, if_pos c_2]))
          exact ih (k + 1) (acc + 1) (by omega) (by omega) hE_4 _ (lv_sub hl [2, 3, 1, 0] rfl)
  refine lv_iconst (v := 0) hx hb dX4_carsInState_0 (by decide) ?_
  refine lv_istore_n (lv' := [(2, .int 0), (0, .ref a), (1, .int sta)]) hx hb dX4_carsInState_1 rfl hl (by decide) rfl (fun ls hl => ?_)
  refine lv_iconst (v := 0) hx hb dX4_carsInState_2 (by decide) ?_
  refine lv_istore_n (lv' := [(3, .int 0), (2, .int 0), (0, .ref a), (1, .int sta)]) hx hb dX4_carsInState_3 rfl hl (by decide) rfl (fun ls hl => ?_)
  have hE_5 : f_X4_carsInState S sta = lp_carsIn S sta ((sN S).toNatClampNeg + 1) 0 0 := (by rw [f_X4_carsInState])
  exact loop4 ((sN S).toNatClampNeg + 1) 0 0 (Nat.zero_le _) (by omega) hE_5 _ (lv_sub hl [2, 3, 1, 0] rfl)

def lp_allPark (S : St) : Nat → Nat → Int32 → Int32
  | 0, _, _ => 0
  | n + 1, k, acc => if (sN S) ≤ (nI k) then acc else
    lp_allPark S n (k + 1) (acc + (f_X6_get 40 (sK S) (nI k)))
def f_X4_allParkedMinutes (S : St) : Int32 :=
  lp_allPark S ((sN S).toNatClampNeg + 1) 0 0
set_option maxHeartbeats 4000000 in
set_option maxRecDepth 100000 in
theorem c_X4_allParkedMinutes (l : Launch) (G : GG) (a : Nat) (S : St) : Met l yX4_allParkedMinutes wsX4_allParkedMinutes ({ frames := 1, cells := 0, slots := 0, locals := 21 }) (PcH G [.ref a] (Str G a S)) (QP (some (.int (f_X4_allParkedMinutes S)))) 0 0 noA := by
  refine metH (cc := cX4_allParkedMinutes) (maxL := 3) (ret := (some .int)) (by decide) rfl ?_
  intro p e s m below meth cd hx hb hr hml hown hts hlocks hP hO
  have hin4 : ∀ w ∈ u_ws RX4 TX4 14, w ∈ wsX4_allParkedMinutes := by decide +kernel
  have hf_30 := hts (.fieldLink RX4 30 "CurbCars$Street" "parkedMinutes" "[I") (by decide +kernel)
  have hf_48 := hts (.fieldLink RX4 48 "CurbCars$Street" "came" "I") (by decide +kernel)
  have hS : va_S noA s.heap s.heap [] := va_S.rf
  have hl := lv_entry ([.ref a]) (n := 3) (Nat.le_of_ble_eq_true rfl)
  rw [lg_entry_eq]
  generalize (lg_sl ([.ref a]) ++ List.replicate (3 - (lg_sl ([.ref a])).length) Slot.unset).toArray = ls at hl ⊢
  have hl : lv_has ls 3 [(0, .ref a)] := hl
  have loop4 : ∀ (n : Nat) (k : Nat) (acc : Int32) , k ≤ (sN S).toNatClampNeg → k + n = (sN S).toNatClampNeg + 1 → f_X4_allParkedMinutes S = lp_allPark S n k acc → ∀ (ls : Array Slot), lv_has ls 3 [(0, .ref a), (1, .int acc), (2, .int (nI k))] → W p l e (headSpec wsX4_allParkedMinutes ({ frames := 1, cells := 0, slots := 0, locals := 21 } : Room)).room s m ([.ref a] : List Value).toArray below meth cd s.heap [] 0 0 (MQ below (QP (some (.int (f_X4_allParkedMinutes S)))) ([.ref a] : List Value).toArray s 0 0 noA) (F0 m 4 ls []) := by
    intro n
    induction n with
    | zero =>
      intro k acc hk hn hR ls hl
      exact absurd hn (by omega)
    | succ n ih =>
      intro k acc hk hn hR ls hl
      refine lv_iload_n hx hb dX4_allParkedMinutes_4 rfl (lv_at hl 2 rfl) ?_
      refine lv_aload_n hx hb dX4_allParkedMinutes_5 rfl (lv_at hl 0 rfl) ?_
      refine va_get (D := G.1) (ci := 2) (v := .int (sN S)) (C := RX4) (T := TX4) (N := 14) hx hb hts hin4 hown hO.1 hP 0 rfl rfl 8 (by decide) hf_48 (fun _ h9 => h9) rfl dX4_allParkedMinutes_6 ?_
      refine lv_icmp_ge (tgt := 29) hx hb dX4_allParkedMinutes_9 (by decide) (fun c_1 => ?_) (fun c_1 => ?_)
      · refine lv_iload_n hx hb dX4_allParkedMinutes_29 rfl (lv_at hl 1 rfl) ?_
        have hE : f_X4_allParkedMinutes S = acc := (hR.trans (by rw [lp_allPark, if_pos c_1]))
        exact W.iret hx hb hr (fun t ht hW => ⟨by rw [hE], ht⟩) hS.2.2 dX4_allParkedMinutes_30
      · have hlt : k < (sN S).toNatClampNeg := (by have h8 := clamp_lt (sN S); exact kV c_1 (by omega))
        refine lv_iload_n hx hb dX4_allParkedMinutes_12 rfl (lv_at hl 1 rfl) ?_
        refine lv_aload_n hx hb dX4_allParkedMinutes_13 rfl (lv_at hl 0 rfl) ?_
        refine va_get (D := G.1) (ci := 2) (v := .ref (a + 7)) (C := RX4) (T := TX4) (N := 14) hx hb hts hin4 hown hO.1 hP 0 rfl rfl 6 (by decide) hf_30 (fun _ h9 => h9) rfl dX4_allParkedMinutes_14 ?_
        refine lv_iload_n hx hb dX4_allParkedMinutes_17 rfl (lv_at hl 2 rfl) ?_
        refine cl_pi (rSN (As := [.ref (a + 7), .int (nI k)]) (rest := [.int acc]) ⟨hx, hb, hml, hown, hts⟩ (c_X6_get l G (a + 7) 40 (sK S) (nI k) (by decide)) ⟨va_cnB 2 hts gX4_allParkedMinutes_X6_get_n84 rfl rfl rfl (hO.2 _ (List.mem_of_getElem? (i := 29) rfl)) (hts (.initialized RX6) (by decide +kernel)) (by decide +kernel) ⟨Nat.le_of_ble_eq_true rfl, Nat.le_of_ble_eq_true rfl⟩, hts (.static yX6_get) (by decide +kernel), trivial⟩ (va_P.sub hP [7] rfl) hO rfl hl.1 (Nat.le_of_ble_eq_true rfl) dX4_allParkedMinutes_18 ⟨Nat.le_of_ble_eq_true rfl, Nat.le_of_ble_eq_true rfl⟩) ?_
        refine lv_iadd hx hb dX4_allParkedMinutes_21 ?_
        refine lv_istore_n (lv' := [(1, .int (acc + (f_X6_get 40 (sK S) (nI k)))), (0, .ref a), (2, .int (nI k))]) hx hb dX4_allParkedMinutes_22 rfl hl (by decide) rfl (fun ls hl => ?_)
        refine lv_iinc (v := nI (k + 1)) (lv' := [(2, .int (nI (k + 1))), (1, .int (acc + (f_X6_get 40 (sK S) (nI k)))), (0, .ref a)]) hx hb dX4_allParkedMinutes_23 hl (k := 2) rfl (nI_1 _) (by decide) rfl (fun ls hl => ?_)
        refine lv_goto (tgt := 4) hx hb dX4_allParkedMinutes_26 (by decide) ?_
        have hE_2 : f_X4_allParkedMinutes S = lp_allPark S n (k + 1) (acc + (f_X6_get 40 (sK S) (nI k))) := (hR.trans (by rw [lp_allPark, if_neg c_1]))
        exact ih (k + 1) (acc + (f_X6_get 40 (sK S) (nI k))) (by omega) (by omega) hE_2 _ (lv_sub hl [2, 1, 0] rfl)
  refine lv_iconst (v := 0) hx hb dX4_allParkedMinutes_0 (by decide) ?_
  refine lv_istore_n (lv' := [(1, .int 0), (0, .ref a)]) hx hb dX4_allParkedMinutes_1 rfl hl (by decide) rfl (fun ls hl => ?_)
  refine lv_iconst (v := 0) hx hb dX4_allParkedMinutes_2 (by decide) ?_
  refine lv_istore_n (lv' := [(2, .int 0), (1, .int 0), (0, .ref a)]) hx hb dX4_allParkedMinutes_3 rfl hl (by decide) rfl (fun ls hl => ?_)
  have hE_3 : f_X4_allParkedMinutes S = lp_allPark S ((sN S).toNatClampNeg + 1) 0 0 := (by rw [f_X4_allParkedMinutes])
  exact loop4 ((sN S).toNatClampNeg + 1) 0 0 (Nat.zero_le _) (by omega) hE_3 _ (lv_sub hl [2, 1, 0] rfl)

def f_X4_minutesLeft (S : St) (c : Int32) : Int32 :=
  (f_X6_get 40 (sY S) c) - (f_X6_get 40 (sK S) c)
set_option maxHeartbeats 4000000 in
set_option maxRecDepth 100000 in
theorem c_X4_minutesLeft (l : Launch) (G : GG) (a : Nat) (S : St) (c : Int32) : Met l yX4_minutesLeft wsX4_minutesLeft ({ frames := 1, cells := 0, slots := 0, locals := 21 }) (PcH G [.ref a, .int c] (Str G a S)) (QP (some (.int (f_X4_minutesLeft S c)))) 0 0 noA := by
  refine metH (cc := cX4_minutesLeft) (maxL := 2) (ret := (some .int)) (by decide) rfl ?_
  intro p e s m below meth cd hx hb hr hml hown hts hlocks hP hO
  have hin4 : ∀ w ∈ u_ws RX4 TX4 14, w ∈ wsX4_minutesLeft := by decide +kernel
  have hf_21 := hts (.fieldLink RX4 21 "CurbCars$Street" "stays" "[I") (by decide +kernel)
  have hf_30 := hts (.fieldLink RX4 30 "CurbCars$Street" "parkedMinutes" "[I") (by decide +kernel)
  have hS : va_S noA s.heap s.heap [] := va_S.rf
  have hl := lv_entry ([.ref a, .int c]) (n := 2) (Nat.le_of_ble_eq_true rfl)
  rw [lg_entry_eq]
  generalize (lg_sl ([.ref a, .int c]) ++ List.replicate (2 - (lg_sl ([.ref a, .int c])).length) Slot.unset).toArray = ls at hl ⊢
  have hl : lv_has ls 2 [(0, .ref a), (1, .int c)] := hl
  refine lv_aload_n hx hb dX4_minutesLeft_0 rfl (lv_at hl 0 rfl) ?_
  refine va_get (D := G.1) (ci := 2) (v := .ref (a + 4)) (C := RX4) (T := TX4) (N := 14) hx hb hts hin4 hown hO.1 hP 0 rfl rfl 3 (by decide) hf_21 (fun _ h9 => h9) rfl dX4_minutesLeft_1 ?_
  refine lv_iload_n hx hb dX4_minutesLeft_4 rfl (lv_at hl 1 rfl) ?_
  refine cl_pi (rSN (As := [.ref (a + 4), .int c]) (rest := []) ⟨hx, hb, hml, hown, hts⟩ (c_X6_get l G (a + 4) 40 (sY S) c (by decide)) ⟨va_cnB 2 hts gX4_minutesLeft_X6_get_n84 rfl rfl rfl (hO.2 _ (List.mem_of_getElem? (i := 29) rfl)) (hts (.initialized RX6) (by decide +kernel)) (by decide +kernel) ⟨Nat.le_of_ble_eq_true rfl, Nat.le_of_ble_eq_true rfl⟩, hts (.static yX6_get) (by decide +kernel), trivial⟩ (va_P.sub hP [4] rfl) hO rfl hl.1 (Nat.le_of_ble_eq_true rfl) dX4_minutesLeft_5 ⟨Nat.le_of_ble_eq_true rfl, Nat.le_of_ble_eq_true rfl⟩) ?_
  refine lv_aload_n hx hb dX4_minutesLeft_8 rfl (lv_at hl 0 rfl) ?_
  refine va_get (D := G.1) (ci := 2) (v := .ref (a + 7)) (C := RX4) (T := TX4) (N := 14) hx hb hts hin4 hown hO.1 hP 0 rfl rfl 6 (by decide) hf_30 (fun _ h9 => h9) rfl dX4_minutesLeft_9 ?_
  refine lv_iload_n hx hb dX4_minutesLeft_12 rfl (lv_at hl 1 rfl) ?_
  refine cl_pi (rSN (As := [.ref (a + 7), .int c]) (rest := [.int (f_X6_get 40 (sY S) c)]) ⟨hx, hb, hml, hown, hts⟩ (c_X6_get l G (a + 7) 40 (sK S) c (by decide)) ⟨va_cnB 2 hts gX4_minutesLeft_X6_get_n84 rfl rfl rfl (hO.2 _ (List.mem_of_getElem? (i := 29) rfl)) (hts (.initialized RX6) (by decide +kernel)) (by decide +kernel) ⟨Nat.le_of_ble_eq_true rfl, Nat.le_of_ble_eq_true rfl⟩, hts (.static yX6_get) (by decide +kernel), trivial⟩ (va_P.sub hP [7] rfl) hO rfl hl.1 (Nat.le_of_ble_eq_true rfl) dX4_minutesLeft_13 ⟨Nat.le_of_ble_eq_true rfl, Nat.le_of_ble_eq_true rfl⟩) ?_
  refine lv_isub hx hb dX4_minutesLeft_16 ?_
  have hE : f_X4_minutesLeft S c = (f_X6_get 40 (sY S) c) - (f_X6_get 40 (sK S) c) := (by rw [f_X4_minutesLeft])
  exact W.iret hx hb hr (fun t ht hW => ⟨by rw [hE], ht⟩) hS.2.2 dX4_minutesLeft_17

def h_X4_changeSetting (S : St) (w : Int32) (v : Int32) : Int32 × St :=
  if (f_X6_isSettingValue w v) = 0 then ((-1), S) else
  if w = 0 then (f_X4_settingOf S w, (wU S v)) else
  if w = 1 then (f_X4_settingOf S w, (wO S v)) else
  (f_X4_settingOf S w, (wE S v))
set_option maxHeartbeats 4000000 in
set_option maxRecDepth 100000 in
theorem c_X4_changeSetting (l : Launch) (G : GG) (a : Nat) (S : St) (w : Int32) (v : Int32) : Met l yX4_changeSetting wsX4_changeSetting ({ frames := 1, cells := 0, slots := 0, locals := 21 }) (PcH G [.ref a, .int w, .int v] (Str G a S)) (QM (some (.int ((h_X4_changeSetting S w v).1))) (Str G a ((h_X4_changeSetting S w v).2)) (blk a (a + 9))) 0 0 (blk a (a + 9)) := by
  refine metH (cc := cX4_changeSetting) (maxL := 4) (ret := (some .int)) (by decide) rfl ?_
  intro p e s m below meth cd hx hb hr hml hown hts hlocks hP hO
  have hin4 : ∀ w ∈ u_ws RX4 TX4 14, w ∈ wsX4_changeSetting := by decide +kernel
  have hf_59 := hts (.fieldLink RX4 59 "CurbCars$Street" "rule" "I") (by decide +kernel)
  have hf_62 := hts (.fieldLink RX4 62 "CurbCars$Street" "room" "I") (by decide +kernel)
  have hf_65 := hts (.fieldLink RX4 65 "CurbCars$Street" "patience" "I") (by decide +kernel)
  have hA : ∀ q, (blk a (a + 9)) q → (blk a (a + 9)) q := fun _ h => h
  have hS : va_S (blk a (a + 9)) s.heap s.heap [] := va_S.rf
  have hl := lv_entry ([.ref a, .int w, .int v]) (n := 4) (Nat.le_of_ble_eq_true rfl)
  rw [lg_entry_eq]
  generalize (lg_sl ([.ref a, .int w, .int v]) ++ List.replicate (4 - (lg_sl ([.ref a, .int w, .int v])).length) Slot.unset).toArray = ls at hl ⊢
  have hl : lv_has ls 4 [(0, .ref a), (1, .int w), (2, .int v)] := hl
  refine lv_iload_n hx hb dX4_changeSetting_0 rfl (lv_at hl 1 rfl) ?_
  refine lv_iload_n hx hb dX4_changeSetting_1 rfl (lv_at hl 2 rfl) ?_
  refine cl_pi (rSN (As := [.int w, .int v]) (rest := []) ⟨hx, hb, hml, hown, hts⟩ (c_X6_isSettingValue l G w v) ⟨va_cnB 2 hts gX4_changeSetting_X6_isSettingValue_n72 rfl rfl rfl (hO.2 _ (List.mem_of_getElem? (i := 38) rfl)) (hts (.initialized RX6) (by decide +kernel)) (by decide +kernel) ⟨Nat.le_of_ble_eq_true rfl, Nat.le_of_ble_eq_true rfl⟩, hts (.static yX6_isSettingValue) (by decide +kernel), trivial⟩ trivial hO rfl hl.1 (Nat.le_of_ble_eq_true rfl) dX4_changeSetting_2 ⟨Nat.le_of_ble_eq_true rfl, Nat.le_of_ble_eq_true rfl⟩) ?_
  refine lv_if_ne (tgt := 10) hx hb dX4_changeSetting_5 (by decide) (fun c_1 => ?_) (fun c_1 => ?_)
  · refine lv_aload_n hx hb dX4_changeSetting_10 rfl (lv_at hl 0 rfl) ?_
    refine lv_iload_n hx hb dX4_changeSetting_11 rfl (lv_at hl 1 rfl) ?_
    refine cl_pi (rV (As := [.int w]) (rest := []) ⟨hx, hb, hml, hown, hts⟩ (c_X4_settingOf l G a S w) (cwV 1 hts gX4_changeSetting_X4_settingOf rfl rfl rfl (by decide +kernel) ⟨Nat.le_of_ble_eq_true rfl, Nat.le_of_ble_eq_true rfl⟩) (st_recv hO hP) hP hO rfl hl.1 (Nat.le_of_ble_eq_true rfl) dX4_changeSetting_12 ⟨Nat.le_of_ble_eq_true rfl, Nat.le_of_ble_eq_true rfl⟩) ?_
    refine lv_istore_n (lv' := [(3, .int (f_X4_settingOf S w)), (0, .ref a), (1, .int w), (2, .int v)]) hx hb dX4_changeSetting_15 rfl hl (by decide) rfl (fun ls hl => ?_)
    refine lv_iload_n hx hb dX4_changeSetting_16 rfl (lv_at hl 2 rfl) ?_
    refine lv_if_ne (tgt := 28) hx hb dX4_changeSetting_17 (by decide) (fun c_2 => ?_) (fun c_2 => ?_)
    · refine lv_iload_n hx hb dX4_changeSetting_28 rfl (lv_at hl 2 rfl) ?_
      refine lv_iconst (v := 1) hx hb dX4_changeSetting_29 (by decide) ?_
      refine lv_icmp_ne (tgt := 41) hx hb dX4_changeSetting_30 (by decide) (fun c_3 => ?_) (fun c_3 => ?_)
      · refine lv_aload_n hx hb dX4_changeSetting_41 rfl (lv_at hl 1 rfl) ?_
        refine lv_iload_n hx hb dX4_changeSetting_42 rfl (lv_at hl 3 rfl) ?_
        refine va_put (D := G.1) (ci := 2) (v := .int v) (ty := .int) (C := RX4) (T := TX4) (N := 14) hx hb hts hin4 tyX4 tyX4_ok nmX4 hown hO.1 hP (st_D a S hA) hS 0 rfl rfl 13 (by decide) hf_65 (fun _ h9 => h9) rfl (by decide +kernel) rfl rfl (Nat.le_of_ble_eq_true rfl) dX4_changeSetting_43 (fun H locs hP hD hS => ?_)
        have hP : Str G a (wE S v) H := st_pE hP
        refine lv_iload_n hx hb dX4_changeSetting_46 rfl (lv_at hl 0 rfl) ?_
        have hE : h_X4_changeSetting S w v = (f_X4_settingOf S w, (wE S v)) := (by rw [h_X4_changeSetting, if_neg c_1, if_neg c_2, if_neg c_3])
        have hE2 := snd_of hE
        exact W.iret hx hb hr (fun t ht hW => ⟨by rw [fst_of hE], by rw [ht, hE2]; exact hP, hS.F ht⟩) hS.2.2 dX4_changeSetting_47
      · refine lv_aload_n hx hb dX4_changeSetting_33 rfl (lv_at hl 1 rfl) ?_
        refine lv_iload_n hx hb dX4_changeSetting_34 rfl (lv_at hl 3 rfl) ?_
        refine va_put (D := G.1) (ci := 2) (v := .int v) (ty := .int) (C := RX4) (T := TX4) (N := 14) hx hb hts hin4 tyX4 tyX4_ok nmX4 hown hO.1 hP (st_D a S hA) hS 0 rfl rfl 12 (by decide) hf_62 (fun _ h9 => h9) rfl (by decide +kernel) rfl rfl (Nat.le_of_ble_eq_true rfl) dX4_changeSetting_35 (fun H locs hP hD hS => ?_)
        have hP : Str G a (wO S v) H := st_pO hP
        refine lv_goto (tgt := 46) hx hb dX4_changeSetting_38 (by decide) ?_
        refine lv_iload_n hx hb dX4_changeSetting_46 rfl (lv_at hl 0 rfl) ?_
        have hE : h_X4_changeSetting S w v = (f_X4_settingOf S w, (wO S v)) := (by rw [h_X4_changeSetting, if_neg c_1, if_neg c_2, if_pos c_3])
        have hE2 := snd_of hE
        exact W.iret hx hb hr (fun t ht hW => ⟨by rw [fst_of hE], by rw [ht, hE2]; exact hP, hS.F ht⟩) hS.2.2 dX4_changeSetting_47
    · refine lv_aload_n hx hb dX4_changeSetting_20 rfl (lv_at hl 1 rfl) ?_
      refine lv_iload_n hx hb dX4_changeSetting_21 rfl (lv_at hl 3 rfl) ?_
      refine va_put (D := G.1) (ci := 2) (v := .int v) (ty := .int) (C := RX4) (T := TX4) (N := 14) hx hb hts hin4 tyX4 tyX4_ok nmX4 hown hO.1 hP (st_D a S hA) hS 0 rfl rfl 11 (by decide) hf_59 (fun _ h9 => h9) rfl (by decide +kernel) rfl rfl (Nat.le_of_ble_eq_true rfl) dX4_changeSetting_22 (fun H locs hP hD hS => ?_)
      have hP : Str G a (wU S v) H := st_pU hP
      refine lv_goto (tgt := 46) hx hb dX4_changeSetting_25 (by decide) ?_
      refine lv_iload_n hx hb dX4_changeSetting_46 rfl (lv_at hl 0 rfl) ?_
      have hE : h_X4_changeSetting S w v = (f_X4_settingOf S w, (wU S v)) := (by rw [h_X4_changeSetting, if_neg c_1, if_pos c_2])
      have hE2 := snd_of hE
      exact W.iret hx hb hr (fun t ht hW => ⟨by rw [fst_of hE], by rw [ht, hE2]; exact hP, hS.F ht⟩) hS.2.2 dX4_changeSetting_47
  · refine lv_iconst (v := -1) hx hb dX4_changeSetting_8 (by decide) ?_
    have hE : h_X4_changeSetting S w v = ((-1), S) := (by rw [h_X4_changeSetting, if_pos c_1])
    have hE2 := snd_of hE
    exact W.iret hx hb hr (fun t ht hW => ⟨by rw [fst_of hE], by rw [ht, hE2]; exact hP, hS.F ht⟩) hS.2.2 dX4_changeSetting_9
