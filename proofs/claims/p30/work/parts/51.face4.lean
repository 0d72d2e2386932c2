def h_X6_why (X : Cx) (len : Int32) : String ⊕ (Int32 × Cx) :=
  if (f_X6_requireLength len) = 0 then .inl "java/lang/IllegalArgumentException" else
  .inr (f_X4_reasonAgainst (xN X) len, X)
set_option maxHeartbeats 4000000 in
set_option maxRecDepth 100000 in
theorem c_X6_why (l : Launch) (G : GG) (b : Nat) (X : Cx) (len : Int32) (hst : l.stackTraces = false) : vx_Met l yX6_why wsX6_why ({ frames := 9, cells := 1, slots := 6, locals := 140 }) (PcT G (blk b (b + 170)) [.ref b, .int len] (Cb G b X)) (QX (h_X6_why X len) (Cb G b) (blk b (b + 170))) (XX (h_X6_why X len)) 1 6 (blk b (b + 170)) := by
  refine metX (cc := cX6_why) (maxL := 2) (ret := (some .int)) (by decide) rfl ?_
  intro p e s m below meth cd hx hb hr hml hown hts hlocks hno hP hO hTh
  have hin6 : ∀ w ∈ u_ws RX6 TX6 5, w ∈ wsX6_why := by decide +kernel
  have hf_19 := hts (.fieldLink RX6 19 "CurbCars" "now" "LCurbCars$Street;") (by decide +kernel)
  have hA : ∀ q, (blk b (b + 170)) q → (blk b (b + 170)) q := fun _ h => h
  have hS : va_S (blk b (b + 170)) s.heap s.heap [] := va_S.rf
  have hl := lv_entry ([.ref b, .int len]) (n := 2) (Nat.le_of_ble_eq_true rfl)
  rw [lg_entry_eq]
  generalize (lg_sl ([.ref b, .int len]) ++ List.replicate (2 - (lg_sl ([.ref b, .int len])).length) Slot.unset).toArray = ls at hl ⊢
  have hl : lv_has ls 2 [(0, .ref b), (1, .int len)] := hl
  refine lv_iload_n hx hb dX6_why_0 rfl (lv_at hl 1 rfl) ?_
  by_cases c_1 : (f_X6_requireLength len) = 0
  · have hE : h_X6_why X len = .inl "java/lang/IllegalArgumentException" := (by rw [h_X6_why, if_pos c_1])
    exact cl_tx (xZ (As := [.int len]) (rest := []) ⟨hx, hb, hml, hown, hts⟩ (c_X6_requireLength_t l G (blk b (b + 170)) len hst c_1) (va_cwS 1 hts gX6_why_X6_requireLength rfl rfl rfl (by decide +kernel) ⟨Nat.le_of_ble_eq_true rfl, Nat.le_of_ble_eq_true rfl⟩) trivial hO (fun U hU hW => hTh.warm hW hU) rfl hl.1 (Nat.le_of_ble_eq_true rfl) dX6_why_1 ⟨Nat.le_of_ble_eq_true rfl, Nat.le_of_ble_eq_true rfl⟩) (fun q h => h) hno hlocks (Nat.le_of_ble_eq_true rfl) (Nat.le_of_ble_eq_true rfl) (fun t h => ⟨hE, h⟩)
  · refine cl_pv (rS (As := [.int len]) (rest := []) ⟨hx, hb, hml, hown, hts⟩ (c_X6_requireLength_n l G len c_1) (va_cwS 1 hts gX6_why_X6_requireLength rfl rfl rfl (by decide +kernel) ⟨Nat.le_of_ble_eq_true rfl, Nat.le_of_ble_eq_true rfl⟩) trivial hO rfl hl.1 (Nat.le_of_ble_eq_true rfl) dX6_why_1 ⟨Nat.le_of_ble_eq_true rfl, Nat.le_of_ble_eq_true rfl⟩) ?_
    refine lv_aload_n hx hb dX6_why_4 rfl (lv_at hl 0 rfl) ?_
    refine va_get (D := G.1) (ci := 4) (v := .ref (b + 3)) (C := RX6) (T := TX6) (N := 5) hx hb hts hin6 hown hO.1 hP.1 0 rfl rfl 1 (by decide) hf_19 (fun _ h9 => h9) rfl dX6_why_5 ?_
    refine lv_iload_n hx hb dX6_why_8 rfl (lv_at hl 1 rfl) ?_
    refine cl_pi (rVN (As := [.int len]) (rest := []) ⟨hx, hb, hml, hown, hts⟩ (c_X4_reasonAgainst l G (b + 3) (xN X) len) ⟨va_cnB 1 hts gX6_why_X4_reasonAgainst_n244 rfl rfl rfl (hO.2 _ (List.mem_of_getElem? (i := 65) rfl)) (hts (.initialized RX4) (by decide +kernel)) (by decide +kernel) ⟨Nat.le_of_ble_eq_true rfl, Nat.le_of_ble_eq_true rfl⟩, hts (.instanceMethod yX4_reasonAgainst) (by decide +kernel), hts (.selects RX4 yX4_reasonAgainst yX4_reasonAgainst) (by decide +kernel)⟩ (st_recv hO hP.2.2.1) hP.2.2.1 hO rfl hl.1 (Nat.le_of_ble_eq_true rfl) dX6_why_9 ⟨Nat.le_of_ble_eq_true rfl, Nat.le_of_ble_eq_true rfl⟩) ?_
    have hE : h_X6_why X len = .inr (f_X4_reasonAgainst (xN X) len, X) := (by rw [h_X6_why, if_neg c_1])
    exact W.widen (k := 1) (n := 6) (Nat.le_of_ble_eq_true rfl) (Nat.le_of_ble_eq_true rfl) (vx_ret (W.iret hx hb hr (fun t ht hW => ⟨_, _, hE, rfl, by rw [ht]; exact hP, hS.F ht⟩) hS.2.2 dX6_why_12))

def h_X6_place (X : Cx) (len : Int32) : String ⊕ (Int32 × Cx) :=
  if (f_X6_requireLength len) = 0 then .inl "java/lang/IllegalArgumentException" else
  .inr (f_X4_chosenPlace (xN X) len, X)
set_option maxHeartbeats 4000000 in
set_option maxRecDepth 100000 in
theorem c_X6_place (l : Launch) (G : GG) (b : Nat) (X : Cx) (len : Int32) (hst : l.stackTraces = false) : vx_Met l yX6_place wsX6_place ({ frames := 9, cells := 1, slots := 6, locals := 140 }) (PcT G (blk b (b + 170)) [.ref b, .int len] (Cb G b X)) (QX (h_X6_place X len) (Cb G b) (blk b (b + 170))) (XX (h_X6_place X len)) 1 6 (blk b (b + 170)) := by
  refine metX (cc := cX6_place) (maxL := 2) (ret := (some .int)) (by decide) rfl ?_
  intro p e s m below meth cd hx hb hr hml hown hts hlocks hno hP hO hTh
  have hin6 : ∀ w ∈ u_ws RX6 TX6 5, w ∈ wsX6_place := by decide +kernel
  have hf_19 := hts (.fieldLink RX6 19 "CurbCars" "now" "LCurbCars$Street;") (by decide +kernel)
  have hA : ∀ q, (blk b (b + 170)) q → (blk b (b + 170)) q := fun _ h => h
  have hS : va_S (blk b (b + 170)) s.heap s.heap [] := va_S.rf
  have hl := lv_entry ([.ref b, .int len]) (n := 2) (Nat.le_of_ble_eq_true rfl)
  rw [lg_entry_eq]
  generalize (lg_sl ([.ref b, .int len]) ++ List.replicate (2 - (lg_sl ([.ref b, .int len])).length) Slot.unset).toArray = ls at hl ⊢
  have hl : lv_has ls 2 [(0, .ref b), (1, .int len)] := hl
  refine lv_iload_n hx hb dX6_place_0 rfl (lv_at hl 1 rfl) ?_
  by_cases c_1 : (f_X6_requireLength len) = 0
  · have hE : h_X6_place X len = .inl "java/lang/IllegalArgumentException" := (by rw [h_X6_place, if_pos c_1])
    exact cl_tx (xZ (As := [.int len]) (rest := []) ⟨hx, hb, hml, hown, hts⟩ (c_X6_requireLength_t l G (blk b (b + 170)) len hst c_1) (va_cwS 1 hts gX6_place_X6_requireLength rfl rfl rfl (by decide +kernel) ⟨Nat.le_of_ble_eq_true rfl, Nat.le_of_ble_eq_true rfl⟩) trivial hO (fun U hU hW => hTh.warm hW hU) rfl hl.1 (Nat.le_of_ble_eq_true rfl) dX6_place_1 ⟨Nat.le_of_ble_eq_true rfl, Nat.le_of_ble_eq_true rfl⟩) (fun q h => h) hno hlocks (Nat.le_of_ble_eq_true rfl) (Nat.le_of_ble_eq_true rfl) (fun t h => ⟨hE, h⟩)
  · refine cl_pv (rS (As := [.int len]) (rest := []) ⟨hx, hb, hml, hown, hts⟩ (c_X6_requireLength_n l G len c_1) (va_cwS 1 hts gX6_place_X6_requireLength rfl rfl rfl (by decide +kernel) ⟨Nat.le_of_ble_eq_true rfl, Nat.le_of_ble_eq_true rfl⟩) trivial hO rfl hl.1 (Nat.le_of_ble_eq_true rfl) dX6_place_1 ⟨Nat.le_of_ble_eq_true rfl, Nat.le_of_ble_eq_true rfl⟩) ?_
    refine lv_aload_n hx hb dX6_place_4 rfl (lv_at hl 0 rfl) ?_
    refine va_get (D := G.1) (ci := 4) (v := .ref (b + 3)) (C := RX6) (T := TX6) (N := 5) hx hb hts hin6 hown hO.1 hP.1 0 rfl rfl 1 (by decide) hf_19 (fun _ h9 => h9) rfl dX6_place_5 ?_
    refine lv_iload_n hx hb dX6_place_8 rfl (lv_at hl 1 rfl) ?_
    refine cl_pi (rVN (As := [.int len]) (rest := []) ⟨hx, hb, hml, hown, hts⟩ (c_X4_chosenPlace l G (b + 3) (xN X) len) ⟨va_cnB 1 hts gX6_place_X4_chosenPlace_n247 rfl rfl rfl (hO.2 _ (List.mem_of_getElem? (i := 66) rfl)) (hts (.initialized RX4) (by decide +kernel)) (by decide +kernel) ⟨Nat.le_of_ble_eq_true rfl, Nat.le_of_ble_eq_true rfl⟩, hts (.instanceMethod yX4_chosenPlace) (by decide +kernel), hts (.selects RX4 yX4_chosenPlace yX4_chosenPlace) (by decide +kernel)⟩ (st_recv hO hP.2.2.1) hP.2.2.1 hO rfl hl.1 (Nat.le_of_ble_eq_true rfl) dX6_place_9 ⟨Nat.le_of_ble_eq_true rfl, Nat.le_of_ble_eq_true rfl⟩) ?_
    have hE : h_X6_place X len = .inr (f_X4_chosenPlace (xN X) len, X) := (by rw [h_X6_place, if_neg c_1])
    exact W.widen (k := 1) (n := 6) (Nat.le_of_ble_eq_true rfl) (Nat.le_of_ble_eq_true rfl) (vx_ret (W.iret hx hb hr (fun t ht hW => ⟨_, _, hE, rfl, by rw [ht]; exact hP, hS.F ht⟩) hS.2.2 dX6_place_12))

def h_X6_fits (X : Cx) (len : Int32) (way : Int32) : String ⊕ (Int32 × Cx) :=
  if (f_X6_requireLength len) = 0 then .inl "java/lang/IllegalArgumentException" else
  if (f_X6_requireZeroOrOne way) = 0 then .inl "java/lang/IllegalArgumentException" else
  if way = 1 then .inr (f_X4_fittingByGaps (xN X) len, X) else
  .inr ((h_X4_fillWith (xR (yR (yR X (xN X)) (wU (xR (yR X (xN X))) 0))) len).1, (yR (yR (yR X (xN X)) (wU (xR (yR X (xN X))) 0)) ((h_X4_fillWith (xR (yR (yR X (xN X)) (wU (xR (yR X (xN X))) 0))) len).2)))
set_option maxHeartbeats 4000000 in
set_option maxRecDepth 100000 in
theorem c_X6_fits (l : Launch) (G : GG) (b : Nat) (X : Cx) (len : Int32) (way : Int32) (hst : l.stackTraces = false) : vx_Met l yX6_fits wsX6_fits ({ frames := 9, cells := 1, slots := 6, locals := 140 }) (PcT G (blk b (b + 170)) [.ref b, .int len, .int way] (Cb G b X)) (QX (h_X6_fits X len way) (Cb G b) (blk b (b + 170))) (XX (h_X6_fits X len way)) 1 6 (blk b (b + 170)) := by
  refine metX (cc := cX6_fits) (maxL := 3) (ret := (some .int)) (by decide) rfl ?_
  intro p e s m below meth cd hx hb hr hml hown hts hlocks hno hP hO hTh
  have hin4 : ∀ w ∈ u_ws RX4 TX4 14, w ∈ wsX6_fits := by decide +kernel
  have hin6 : ∀ w ∈ u_ws RX6 TX6 5, w ∈ wsX6_fits := by decide +kernel
  have hf_19 := hts (.fieldLink RX6 19 "CurbCars" "now" "LCurbCars$Street;") (by decide +kernel)
  have hf_23 := hts (.fieldLink RX6 23 "CurbCars" "trial" "LCurbCars$Street;") (by decide +kernel)
  have hA : ∀ q, (blk b (b + 170)) q → (blk b (b + 170)) q := fun _ h => h
  have hS : va_S (blk b (b + 170)) s.heap s.heap [] := va_S.rf
  have hl := lv_entry ([.ref b, .int len, .int way]) (n := 3) (Nat.le_of_ble_eq_true rfl)
  rw [lg_entry_eq]
  generalize (lg_sl ([.ref b, .int len, .int way]) ++ List.replicate (3 - (lg_sl ([.ref b, .int len, .int way])).length) Slot.unset).toArray = ls at hl ⊢
  have hl : lv_has ls 3 [(0, .ref b), (1, .int len), (2, .int way)] := hl
  refine lv_iload_n hx hb dX6_fits_0 rfl (lv_at hl 1 rfl) ?_
  by_cases c_1 : (f_X6_requireLength len) = 0
  · have hE : h_X6_fits X len way = .inl "java/lang/IllegalArgumentException" := (by rw [h_X6_fits, if_pos c_1])
    exact cl_tx (xZ (As := [.int len]) (rest := []) ⟨hx, hb, hml, hown, hts⟩ (c_X6_requireLength_t l G (blk b (b + 170)) len hst c_1) (va_cwS 1 hts gX6_fits_X6_requireLength rfl rfl rfl (by decide +kernel) ⟨Nat.le_of_ble_eq_true rfl, Nat.le_of_ble_eq_true rfl⟩) trivial hO (fun U hU hW => hTh.warm hW hU) rfl hl.1 (Nat.le_of_ble_eq_true rfl) dX6_fits_1 ⟨Nat.le_of_ble_eq_true rfl, Nat.le_of_ble_eq_true rfl⟩) (fun q h => h) hno hlocks (Nat.le_of_ble_eq_true rfl) (Nat.le_of_ble_eq_true rfl) (fun t h => ⟨hE, h⟩)
  · refine cl_pv (rS (As := [.int len]) (rest := []) ⟨hx, hb, hml, hown, hts⟩ (c_X6_requireLength_n l G len c_1) (va_cwS 1 hts gX6_fits_X6_requireLength rfl rfl rfl (by decide +kernel) ⟨Nat.le_of_ble_eq_true rfl, Nat.le_of_ble_eq_true rfl⟩) trivial hO rfl hl.1 (Nat.le_of_ble_eq_true rfl) dX6_fits_1 ⟨Nat.le_of_ble_eq_true rfl, Nat.le_of_ble_eq_true rfl⟩) ?_
    refine lv_iload_n hx hb dX6_fits_4 rfl (lv_at hl 2 rfl) ?_
    by_cases c_2 : (f_X6_requireZeroOrOne way) = 0
    · have hE : h_X6_fits X len way = .inl "java/lang/IllegalArgumentException" := (by rw [h_X6_fits, if_neg c_1, if_pos c_2])
      exact cl_tx (xZ (As := [.int way]) (rest := []) ⟨hx, hb, hml, hown, hts⟩ (c_X6_requireZeroOrOne_t l G (blk b (b + 170)) way hst c_2) (va_cwS 1 hts gX6_fits_X6_requireZeroOrOne rfl rfl rfl (by decide +kernel) ⟨Nat.le_of_ble_eq_true rfl, Nat.le_of_ble_eq_true rfl⟩) trivial hO (fun U hU hW => hTh.warm hW hU) rfl hl.1 (Nat.le_of_ble_eq_true rfl) dX6_fits_5 ⟨Nat.le_of_ble_eq_true rfl, Nat.le_of_ble_eq_true rfl⟩) (fun q h => h) hno hlocks (Nat.le_of_ble_eq_true rfl) (Nat.le_of_ble_eq_true rfl) (fun t h => ⟨hE, h⟩)
    · refine cl_pv (rS (As := [.int way]) (rest := []) ⟨hx, hb, hml, hown, hts⟩ (c_X6_requireZeroOrOne_n l G way c_2) (va_cwS 1 hts gX6_fits_X6_requireZeroOrOne rfl rfl rfl (by decide +kernel) ⟨Nat.le_of_ble_eq_true rfl, Nat.le_of_ble_eq_true rfl⟩) trivial hO rfl hl.1 (Nat.le_of_ble_eq_true rfl) dX6_fits_5 ⟨Nat.le_of_ble_eq_true rfl, Nat.le_of_ble_eq_true rfl⟩) ?_
      refine lv_iload_n hx hb dX6_fits_8 rfl (lv_at hl 2 rfl) ?_
      refine lv_iconst (v := 1) hx hb dX6_fits_9 (by decide) ?_
      refine lv_icmp_ne (tgt := 22) hx hb dX6_fits_10 (by decide) (fun c_3 => ?_) (fun c_3 => ?_)
      · refine lv_aload_n hx hb dX6_fits_22 rfl (lv_at hl 0 rfl) ?_
        refine va_get (D := G.1) (ci := 4) (v := .ref (b + 12)) (C := RX6) (T := TX6) (N := 5) hx hb hts hin6 hown hO.1 hP.1 0 rfl rfl 2 (by decide) hf_23 (fun _ h9 => h9) rfl dX6_fits_23 ?_
        refine lv_aload_n hx hb dX6_fits_26 rfl (lv_at hl 0 rfl) ?_
        refine va_get (D := G.1) (ci := 4) (v := .ref (b + 3)) (C := RX6) (T := TX6) (N := 5) hx hb hts hin6 hown hO.1 hP.1 0 rfl rfl 1 (by decide) hf_19 (fun _ h9 => h9) rfl dX6_fits_27 ?_
        refine cl_mv (rVN (As := [.ref (b + 3)]) (rest := []) ⟨hx, hb, hml, hown, hts⟩ (c_X4_copyFrom l G (b + 12) (b + 3) (xR X) (xN X) (by omega)) ⟨va_cnB 1 hts gX6_fits_X4_copyFrom_n253 rfl rfl rfl (hO.2 _ (List.mem_of_getElem? (i := 68) rfl)) (hts (.initialized RX4) (by decide +kernel)) (by decide +kernel) ⟨Nat.le_of_ble_eq_true rfl, Nat.le_of_ble_eq_true rfl⟩, hts (.instanceMethod yX4_copyFrom) (by decide +kernel), hts (.selects RX4 yX4_copyFrom yX4_copyFrom) (by decide +kernel)⟩ (st_recv hO hP.2.2.2.1) (P_app.mpr ⟨hP.2.2.2.1, hP.2.2.1⟩) hO rfl hl.1 (Nat.le_of_ble_eq_true rfl) dX6_fits_30 ⟨Nat.le_of_ble_eq_true rfl, Nat.le_of_ble_eq_true rfl⟩) hS (fun q h => hA q (by simp only [blk, blk2, blkh] at *; omega)) (fun H locs hP1 hz hk hS => ?_)
        have hP : Cb G b (yR X (xN X)) H := cb_copy hP hP1 hk
        refine lv_aload_n hx hb dX6_fits_33 rfl (lv_at hl 0 rfl) ?_
        refine va_get (D := G.1) (ci := 4) (v := .ref (b + 12)) (C := RX6) (T := TX6) (N := 5) hx hb hts hin6 hown hO.1 hP.1 0 rfl rfl 2 (by decide) hf_23 (fun _ h9 => h9) rfl dX6_fits_34 ?_
        refine lv_iconst (v := 0) hx hb dX6_fits_37 (by decide) ?_
        refine va_putN (D := G.1) (ci := 2) (v := .int 0) (ty := .int) (C := RX4) (T := TX4) (N := 14) hx hb hts hin4 tyX4 tyX4_ok nmX4 hown hO.1 (cb_fl hP) (cb_D hA) hS 0 rfl rfl 11 (by decide) (va_Nw.use rfl (hO.2 _ (List.mem_of_getElem? (i := 14) rfl))) (fun _ h9 => h9) rfl (by decide +kernel) rfl rfl (Nat.le_of_ble_eq_true rfl) dX6_fits_38 (fun H locs hP hD hS => ?_)
        have hP : Cb G b (yR (yR X (xN X)) (wU (xR (yR X (xN X))) 0)) H := cb_pO hP
        refine lv_aload_n hx hb dX6_fits_41 rfl (lv_at hl 0 rfl) ?_
        refine va_get (D := G.1) (ci := 4) (v := .ref (b + 12)) (C := RX6) (T := TX6) (N := 5) hx hb hts hin6 hown hO.1 hP.1 0 rfl rfl 2 (by decide) hf_23 (fun _ h9 => h9) rfl dX6_fits_42 ?_
        refine lv_iload_n hx hb dX6_fits_45 rfl (lv_at hl 1 rfl) ?_
        refine cl_mi (rVN (As := [.int len]) (rest := []) ⟨hx, hb, hml, hown, hts⟩ (c_X4_fillWith l G (b + 12) (xR (yR (yR X (xN X)) (wU (xR (yR X (xN X))) 0))) len) ⟨va_cnB 1 hts gX6_fits_X4_fillWith_n259 rfl rfl rfl (hO.2 _ (List.mem_of_getElem? (i := 69) rfl)) (hts (.initialized RX4) (by decide +kernel)) (by decide +kernel) ⟨Nat.le_of_ble_eq_true rfl, Nat.le_of_ble_eq_true rfl⟩, hts (.instanceMethod yX4_fillWith) (by decide +kernel), hts (.selects RX4 yX4_fillWith yX4_fillWith) (by decide +kernel)⟩ (st_recv hO hP.2.2.2.1) hP.2.2.2.1 hO rfl hl.1 (Nat.le_of_ble_eq_true rfl) dX6_fits_46 ⟨Nat.le_of_ble_eq_true rfl, Nat.le_of_ble_eq_true rfl⟩) hS (fun q h => hA q (by simp only [blk, blk2, blkh] at *; omega)) (fun H locs hP1 hz hk hS => ?_)
        have hP : Cb G b (yR (yR (yR X (xN X)) (wU (xR (yR X (xN X))) 0)) ((h_X4_fillWith (xR (yR (yR X (xN X)) (wU (xR (yR X (xN X))) 0))) len).2)) H := cb_trial hP hP1 hk
        have hE : h_X6_fits X len way = .inr ((h_X4_fillWith (xR (yR (yR X (xN X)) (wU (xR (yR X (xN X))) 0))) len).1, (yR (yR (yR X (xN X)) (wU (xR (yR X (xN X))) 0)) ((h_X4_fillWith (xR (yR (yR X (xN X)) (wU (xR (yR X (xN X))) 0))) len).2))) := (by rw [h_X6_fits, if_neg c_1, if_neg c_2, if_neg c_3])
        exact W.widen (k := 1) (n := 6) (Nat.le_of_ble_eq_true rfl) (Nat.le_of_ble_eq_true rfl) (vx_ret (W.iret hx hb hr (fun t ht hW => ⟨_, _, hE, rfl, by rw [ht]; exact hP, hS.F ht⟩) hS.2.2 dX6_fits_49))
      · refine lv_aload_n hx hb dX6_fits_13 rfl (lv_at hl 0 rfl) ?_
        refine va_get (D := G.1) (ci := 4) (v := .ref (b + 3)) (C := RX6) (T := TX6) (N := 5) hx hb hts hin6 hown hO.1 hP.1 0 rfl rfl 1 (by decide) hf_19 (fun _ h9 => h9) rfl dX6_fits_14 ?_
        refine lv_iload_n hx hb dX6_fits_17 rfl (lv_at hl 1 rfl) ?_
        refine cl_pi (rVN (As := [.int len]) (rest := []) ⟨hx, hb, hml, hown, hts⟩ (c_X4_fittingByGaps l G (b + 3) (xN X) len) ⟨va_cnB 1 hts gX6_fits_X4_fittingByGaps_n250 rfl rfl rfl (hO.2 _ (List.mem_of_getElem? (i := 67) rfl)) (hts (.initialized RX4) (by decide +kernel)) (by decide +kernel) ⟨Nat.le_of_ble_eq_true rfl, Nat.le_of_ble_eq_true rfl⟩, hts (.instanceMethod yX4_fittingByGaps) (by decide +kernel), hts (.selects RX4 yX4_fittingByGaps yX4_fittingByGaps) (by decide +kernel)⟩ (st_recv hO hP.2.2.1) hP.2.2.1 hO rfl hl.1 (Nat.le_of_ble_eq_true rfl) dX6_fits_18 ⟨Nat.le_of_ble_eq_true rfl, Nat.le_of_ble_eq_true rfl⟩) ?_
        have hE : h_X6_fits X len way = .inr (f_X4_fittingByGaps (xN X) len, X) := (by rw [h_X6_fits, if_neg c_1, if_neg c_2, if_pos c_3])
        exact W.widen (k := 1) (n := 6) (Nat.le_of_ble_eq_true rfl) (Nat.le_of_ble_eq_true rfl) (vx_ret (W.iret hx hb hr (fun t ht hW => ⟨_, _, hE, rfl, by rw [ht]; exact hP, hS.F ht⟩) hS.2.2 dX6_fits_21))

def h_X6_mover (X : Cx) (len : Int32) (w : Int32) : String ⊕ (Int32 × Cx) :=
  if (f_X6_requireLength len) = 0 then .inl "java/lang/IllegalArgumentException" else
  if (f_X6_requireZeroOrOne w) = 0 then .inl "java/lang/IllegalArgumentException" else
  if w = 0 then .inr (f_X4_carToShift (xN X) len, X) else
  if (f_X4_carToShift (xN X) len) = (-1) then .inr (f_X4_carToShift (xN X) len, X) else
  .inr (f_X4_placeToShiftTo (xN X) (f_X4_carToShift (xN X) len) len, X)
set_option maxHeartbeats 4000000 in
set_option maxRecDepth 100000 in
theorem c_X6_mover (l : Launch) (G : GG) (b : Nat) (X : Cx) (len : Int32) (w : Int32) (hst : l.stackTraces = false) : vx_Met l yX6_mover wsX6_mover ({ frames := 9, cells := 1, slots := 6, locals := 140 }) (PcT G (blk b (b + 170)) [.ref b, .int len, .int w] (Cb G b X)) (QX (h_X6_mover X len w) (Cb G b) (blk b (b + 170))) (XX (h_X6_mover X len w)) 1 6 (blk b (b + 170)) := by
  refine metX (cc := cX6_mover) (maxL := 4) (ret := (some .int)) (by decide) rfl ?_
  intro p e s m below meth cd hx hb hr hml hown hts hlocks hno hP hO hTh
  have hin6 : ∀ w ∈ u_ws RX6 TX6 5, w ∈ wsX6_mover := by decide +kernel
  have hf_19 := hts (.fieldLink RX6 19 "CurbCars" "now" "LCurbCars$Street;") (by decide +kernel)
  have hA : ∀ q, (blk b (b + 170)) q → (blk b (b + 170)) q := fun _ h => h
  have hS : va_S (blk b (b + 170)) s.heap s.heap [] := va_S.rf
  have hl := lv_entry ([.ref b, .int len, .int w]) (n := 4) (Nat.le_of_ble_eq_true rfl)
  rw [lg_entry_eq]
  generalize (lg_sl ([.ref b, .int len, .int w]) ++ List.replicate (4 - (lg_sl ([.ref b, .int len, .int w])).length) Slot.unset).toArray = ls at hl ⊢
  have hl : lv_has ls 4 [(0, .ref b), (1, .int len), (2, .int w)] := hl
  refine lv_iload_n hx hb dX6_mover_0 rfl (lv_at hl 1 rfl) ?_
  by_cases c_1 : (f_X6_requireLength len) = 0
  · have hE : h_X6_mover X len w = .inl "java/lang/IllegalArgumentException" := (by rw [h_X6_mover, if_pos c_1])
    exact cl_tx (xZ (As := [.int len]) (rest := []) ⟨hx, hb, hml, hown, hts⟩ (c_X6_requireLength_t l G (blk b (b + 170)) len hst c_1) (va_cwS 1 hts gX6_mover_X6_requireLength rfl rfl rfl (by decide +kernel) ⟨Nat.le_of_ble_eq_true rfl, Nat.le_of_ble_eq_true rfl⟩) trivial hO (fun U hU hW => hTh.warm hW hU) rfl hl.1 (Nat.le_of_ble_eq_true rfl) dX6_mover_1 ⟨Nat.le_of_ble_eq_true rfl, Nat.le_of_ble_eq_true rfl⟩) (fun q h => h) hno hlocks (Nat.le_of_ble_eq_true rfl) (Nat.le_of_ble_eq_true rfl) (fun t h => ⟨hE, h⟩)
  · refine cl_pv (rS (As := [.int len]) (rest := []) ⟨hx, hb, hml, hown, hts⟩ (c_X6_requireLength_n l G len c_1) (va_cwS 1 hts gX6_mover_X6_requireLength rfl rfl rfl (by decide +kernel) ⟨Nat.le_of_ble_eq_true rfl, Nat.le_of_ble_eq_true rfl⟩) trivial hO rfl hl.1 (Nat.le_of_ble_eq_true rfl) dX6_mover_1 ⟨Nat.le_of_ble_eq_true rfl, Nat.le_of_ble_eq_true rfl⟩) ?_
    refine lv_iload_n hx hb dX6_mover_4 rfl (lv_at hl 2 rfl) ?_
    by_cases c_2 : (f_X6_requireZeroOrOne w) = 0
    · have hE : h_X6_mover X len w = .inl "java/lang/IllegalArgumentException" := (by rw [h_X6_mover, if_neg c_1, if_pos c_2])
      exact cl_tx (xZ (As := [.int w]) (rest := []) ⟨hx, hb, hml, hown, hts⟩ (c_X6_requireZeroOrOne_t l G (blk b (b + 170)) w hst c_2) (va_cwS 1 hts gX6_mover_X6_requireZeroOrOne rfl rfl rfl (by decide +kernel) ⟨Nat.le_of_ble_eq_true rfl, Nat.le_of_ble_eq_true rfl⟩) trivial hO (fun U hU hW => hTh.warm hW hU) rfl hl.1 (Nat.le_of_ble_eq_true rfl) dX6_mover_5 ⟨Nat.le_of_ble_eq_true rfl, Nat.le_of_ble_eq_true rfl⟩) (fun q h => h) hno hlocks (Nat.le_of_ble_eq_true rfl) (Nat.le_of_ble_eq_true rfl) (fun t h => ⟨hE, h⟩)
    · refine cl_pv (rS (As := [.int w]) (rest := []) ⟨hx, hb, hml, hown, hts⟩ (c_X6_requireZeroOrOne_n l G w c_2) (va_cwS 1 hts gX6_mover_X6_requireZeroOrOne rfl rfl rfl (by decide +kernel) ⟨Nat.le_of_ble_eq_true rfl, Nat.le_of_ble_eq_true rfl⟩) trivial hO rfl hl.1 (Nat.le_of_ble_eq_true rfl) dX6_mover_5 ⟨Nat.le_of_ble_eq_true rfl, Nat.le_of_ble_eq_true rfl⟩) ?_
      refine lv_aload_n hx hb dX6_mover_8 rfl (lv_at hl 0 rfl) ?_
      refine va_get (D := G.1) (ci := 4) (v := .ref (b + 3)) (C := RX6) (T := TX6) (N := 5) hx hb hts hin6 hown hO.1 hP.1 0 rfl rfl 1 (by decide) hf_19 (fun _ h9 => h9) rfl dX6_mover_9 ?_
      refine lv_iload_n hx hb dX6_mover_12 rfl (lv_at hl 1 rfl) ?_
      refine cl_pi (rVN (As := [.int len]) (rest := []) ⟨hx, hb, hml, hown, hts⟩ (c_X4_carToShift l G (b + 3) (xN X) len) ⟨va_cnB 1 hts gX6_mover_X4_carToShift_n262 rfl rfl rfl (hO.2 _ (List.mem_of_getElem? (i := 70) rfl)) (hts (.initialized RX4) (by decide +kernel)) (by decide +kernel) ⟨Nat.le_of_ble_eq_true rfl, Nat.le_of_ble_eq_true rfl⟩, hts (.instanceMethod yX4_carToShift) (by decide +kernel), hts (.selects RX4 yX4_carToShift yX4_carToShift) (by decide +kernel)⟩ (st_recv hO hP.2.2.1) hP.2.2.1 hO rfl hl.1 (Nat.le_of_ble_eq_true rfl) dX6_mover_13 ⟨Nat.le_of_ble_eq_true rfl, Nat.le_of_ble_eq_true rfl⟩) ?_
      refine lv_istore_n (lv' := [(3, .int (f_X4_carToShift (xN X) len)), (0, .ref b), (1, .int len), (2, .int w)]) hx hb dX6_mover_16 rfl hl (by decide) rfl (fun ls hl => ?_)
      refine lv_iload_n hx hb dX6_mover_17 rfl (lv_at hl 3 rfl) ?_
      refine lv_if_eq (tgt := 26) hx hb dX6_mover_18 (by decide) (fun c_3 => ?_) (fun c_3 => ?_)
      · refine lv_iload_n hx hb dX6_mover_26 rfl (lv_at hl 0 rfl) ?_
        refine lv_goto (tgt := 39) hx hb dX6_mover_27 (by decide) ?_
        have hE : h_X6_mover X len w = .inr (f_X4_carToShift (xN X) len, X) := (by rw [h_X6_mover, if_neg c_1, if_neg c_2, if_pos c_3])
        exact W.widen (k := 1) (n := 6) (Nat.le_of_ble_eq_true rfl) (Nat.le_of_ble_eq_true rfl) (vx_ret (W.iret hx hb hr (fun t ht hW => ⟨_, _, hE, rfl, by rw [ht]; exact hP, hS.F ht⟩) hS.2.2 dX6_mover_39))
      · refine lv_iload_n hx hb dX6_mover_21 rfl (lv_at hl 0 rfl) ?_
        refine lv_iconst (v := -1) hx hb dX6_mover_22 (by decide) ?_
        refine lv_icmp_ne (tgt := 30) hx hb dX6_mover_23 (by decide) (fun c_4 => ?_) (fun c_4 => ?_)
        · refine lv_aload_n hx hb dX6_mover_30 rfl (lv_at hl 1 rfl) ?_
          refine va_get (D := G.1) (ci := 4) (v := .ref (b + 3)) (C := RX6) (T := TX6) (N := 5) hx hb hts hin6 hown hO.1 hP.1 0 rfl rfl 1 (by decide) hf_19 (fun _ h9 => h9) rfl dX6_mover_31 ?_
          refine lv_iload_n hx hb dX6_mover_34 rfl (lv_at hl 0 rfl) ?_
          refine lv_iload_n hx hb dX6_mover_35 rfl (lv_at hl 2 rfl) ?_
          refine cl_pi (rVN (As := [.int (f_X4_carToShift (xN X) len), .int len]) (rest := []) ⟨hx, hb, hml, hown, hts⟩ (c_X4_placeToShiftTo l G (b + 3) (xN X) (f_X4_carToShift (xN X) len) len) ⟨va_cnB 2 hts gX6_mover_X4_placeToShiftTo_n265 rfl rfl rfl (hO.2 _ (List.mem_of_getElem? (i := 71) rfl)) (hts (.initialized RX4) (by decide +kernel)) (by decide +kernel) ⟨Nat.le_of_ble_eq_true rfl, Nat.le_of_ble_eq_true rfl⟩, hts (.instanceMethod yX4_placeToShiftTo) (by decide +kernel), hts (.selects RX4 yX4_placeToShiftTo yX4_placeToShiftTo) (by decide +kernel)⟩ (st_recv hO hP.2.2.1) hP.2.2.1 hO rfl hl.1 (Nat.le_of_ble_eq_true rfl) dX6_mover_36 ⟨Nat.le_of_ble_eq_true rfl, Nat.le_of_ble_eq_true rfl⟩) ?_
          have hE : h_X6_mover X len w = .inr (f_X4_placeToShiftTo (xN X) (f_X4_carToShift (xN X) len) len, X) := (by rw [h_X6_mover, if_neg c_1, if_neg c_2, if_neg c_3, if_neg c_4])
          exact W.widen (k := 1) (n := 6) (Nat.le_of_ble_eq_true rfl) (Nat.le_of_ble_eq_true rfl) (vx_ret (W.iret hx hb hr (fun t ht hW => ⟨_, _, hE, rfl, by rw [ht]; exact hP, hS.F ht⟩) hS.2.2 dX6_mover_39))
        · refine lv_iload_n hx hb dX6_mover_26 rfl (lv_at hl 0 rfl) ?_
          refine lv_goto (tgt := 39) hx hb dX6_mover_27 (by decide) ?_
          have hE : h_X6_mover X len w = .inr (f_X4_carToShift (xN X) len, X) := (by rw [h_X6_mover, if_neg c_1, if_neg c_2, if_neg c_3, if_pos c_4])
          exact W.widen (k := 1) (n := 6) (Nat.le_of_ble_eq_true rfl) (Nat.le_of_ble_eq_true rfl) (vx_ret (W.iret hx hb hr (fun t ht hW => ⟨_, _, hE, rfl, by rw [ht]; exact hP, hS.F ht⟩) hS.2.2 dX6_mover_39))

def h_X6_jam (X : Cx) (len : Int32) (sd : Int64) : String ⊕ (Int32 × Cx) :=
  if (f_X6_requireLength len) = 0 then .inl "java/lang/IllegalArgumentException" else
  .inr ((h_X4_fillWith (xR (yR (yR (yR X (xN X)) (wU (xR (yR X (xN X))) 2)) (wH (xR (yR (yR X (xN X)) (wU (xR (yR X (xN X))) 2))) sd))) len).1, (yR (yR (yR (yR X (xN X)) (wU (xR (yR X (xN X))) 2)) (wH (xR (yR (yR X (xN X)) (wU (xR (yR X (xN X))) 2))) sd)) ((h_X4_fillWith (xR (yR (yR (yR X (xN X)) (wU (xR (yR X (xN X))) 2)) (wH (xR (yR (yR X (xN X)) (wU (xR (yR X (xN X))) 2))) sd))) len).2)))
set_option maxHeartbeats 4000000 in
set_option maxRecDepth 100000 in
theorem c_X6_jam (l : Launch) (G : GG) (b : Nat) (X : Cx) (len : Int32) (sd : Int64) (hst : l.stackTraces = false) : vx_Met l yX6_jam wsX6_jam ({ frames := 9, cells := 1, slots := 6, locals := 140 }) (PcT G (blk b (b + 170)) [.ref b, .int len, .long sd] (Cb G b X)) (QX (h_X6_jam X len sd) (Cb G b) (blk b (b + 170))) (XX (h_X6_jam X len sd)) 1 6 (blk b (b + 170)) := by
  refine metX (cc := cX6_jam) (maxL := 4) (ret := (some .int)) (by decide) rfl ?_
  intro p e s m below meth cd hx hb hr hml hown hts hlocks hno hP hO hTh
  have hin4 : ∀ w ∈ u_ws RX4 TX4 14, w ∈ wsX6_jam := by decide +kernel
  have hin6 : ∀ w ∈ u_ws RX6 TX6 5, w ∈ wsX6_jam := by decide +kernel
  have hf_19 := hts (.fieldLink RX6 19 "CurbCars" "now" "LCurbCars$Street;") (by decide +kernel)
  have hf_23 := hts (.fieldLink RX6 23 "CurbCars" "trial" "LCurbCars$Street;") (by decide +kernel)
  have hA : ∀ q, (blk b (b + 170)) q → (blk b (b + 170)) q := fun _ h => h
  have hS : va_S (blk b (b + 170)) s.heap s.heap [] := va_S.rf
  have hl := lv_entry ([.ref b, .int len, .long sd]) (n := 4) (Nat.le_of_ble_eq_true rfl)
  rw [lg_entry_eq]
  generalize (lg_sl ([.ref b, .int len, .long sd]) ++ List.replicate (4 - (lg_sl ([.ref b, .int len, .long sd])).length) Slot.unset).toArray = ls at hl ⊢
  have hl : lv_has ls 4 [(0, .ref b), (1, .int len), (2, .long sd)] := hl
  refine lv_iload_n hx hb dX6_jam_0 rfl (lv_at hl 1 rfl) ?_
  by_cases c_1 : (f_X6_requireLength len) = 0
  · have hE : h_X6_jam X len sd = .inl "java/lang/IllegalArgumentException" := (by rw [h_X6_jam, if_pos c_1])
    exact cl_tx (xZ (As := [.int len]) (rest := []) ⟨hx, hb, hml, hown, hts⟩ (c_X6_requireLength_t l G (blk b (b + 170)) len hst c_1) (va_cwS 1 hts gX6_jam_X6_requireLength rfl rfl rfl (by decide +kernel) ⟨Nat.le_of_ble_eq_true rfl, Nat.le_of_ble_eq_true rfl⟩) trivial hO (fun U hU hW => hTh.warm hW hU) rfl hl.1 (Nat.le_of_ble_eq_true rfl) dX6_jam_1 ⟨Nat.le_of_ble_eq_true rfl, Nat.le_of_ble_eq_true rfl⟩) (fun q h => h) hno hlocks (Nat.le_of_ble_eq_true rfl) (Nat.le_of_ble_eq_true rfl) (fun t h => ⟨hE, h⟩)
  · refine cl_pv (rS (As := [.int len]) (rest := []) ⟨hx, hb, hml, hown, hts⟩ (c_X6_requireLength_n l G len c_1) (va_cwS 1 hts gX6_jam_X6_requireLength rfl rfl rfl (by decide +kernel) ⟨Nat.le_of_ble_eq_true rfl, Nat.le_of_ble_eq_true rfl⟩) trivial hO rfl hl.1 (Nat.le_of_ble_eq_true rfl) dX6_jam_1 ⟨Nat.le_of_ble_eq_true rfl, Nat.le_of_ble_eq_true rfl⟩) ?_
    refine lv_aload_n hx hb dX6_jam_4 rfl (lv_at hl 0 rfl) ?_
    refine va_get (D := G.1) (ci := 4) (v := .ref (b + 12)) (C := RX6) (T := TX6) (N := 5) hx hb hts hin6 hown hO.1 hP.1 0 rfl rfl 2 (by decide) hf_23 (fun _ h9 => h9) rfl dX6_jam_5 ?_
    refine lv_aload_n hx hb dX6_jam_8 rfl (lv_at hl 0 rfl) ?_
    refine va_get (D := G.1) (ci := 4) (v := .ref (b + 3)) (C := RX6) (T := TX6) (N := 5) hx hb hts hin6 hown hO.1 hP.1 0 rfl rfl 1 (by decide) hf_19 (fun _ h9 => h9) rfl dX6_jam_9 ?_
    refine cl_mv (rVN (As := [.ref (b + 3)]) (rest := []) ⟨hx, hb, hml, hown, hts⟩ (c_X4_copyFrom l G (b + 12) (b + 3) (xR X) (xN X) (by omega)) ⟨va_cnB 1 hts gX6_jam_X4_copyFrom_n253 rfl rfl rfl (hO.2 _ (List.mem_of_getElem? (i := 68) rfl)) (hts (.initialized RX4) (by decide +kernel)) (by decide +kernel) ⟨Nat.le_of_ble_eq_true rfl, Nat.le_of_ble_eq_true rfl⟩, hts (.instanceMethod yX4_copyFrom) (by decide +kernel), hts (.selects RX4 yX4_copyFrom yX4_copyFrom) (by decide +kernel)⟩ (st_recv hO hP.2.2.2.1) (P_app.mpr ⟨hP.2.2.2.1, hP.2.2.1⟩) hO rfl hl.1 (Nat.le_of_ble_eq_true rfl) dX6_jam_12 ⟨Nat.le_of_ble_eq_true rfl, Nat.le_of_ble_eq_true rfl⟩) hS (fun q h => hA q (by simp only [blk, blk2, blkh] at *; omega)) (fun H locs hP1 hz hk hS => ?_)
    have hP : Cb G b (yR X (xN X)) H := cb_copy hP hP1 hk
    refine lv_aload_n hx hb dX6_jam_15 rfl (lv_at hl 0 rfl) ?_
    refine va_get (D := G.1) (ci := 4) (v := .ref (b + 12)) (C := RX6) (T := TX6) (N := 5) hx hb hts hin6 hown hO.1 hP.1 0 rfl rfl 2 (by decide) hf_23 (fun _ h9 => h9) rfl dX6_jam_16 ?_
    refine lv_iconst (v := 2) hx hb dX6_jam_19 (by decide) ?_
    refine va_putN (D := G.1) (ci := 2) (v := .int 2) (ty := .int) (C := RX4) (T := TX4) (N := 14) hx hb hts hin4 tyX4 tyX4_ok nmX4 hown hO.1 (cb_fl hP) (cb_D hA) hS 0 rfl rfl 11 (by decide) (va_Nw.use rfl (hO.2 _ (List.mem_of_getElem? (i := 14) rfl))) (fun _ h9 => h9) rfl (by decide +kernel) rfl rfl (Nat.le_of_ble_eq_true rfl) dX6_jam_20 (fun H locs hP hD hS => ?_)
    have hP : Cb G b (yR (yR X (xN X)) (wU (xR (yR X (xN X))) 2)) H := cb_pO hP
    refine lv_aload_n hx hb dX6_jam_23 rfl (lv_at hl 0 rfl) ?_
    refine va_get (D := G.1) (ci := 4) (v := .ref (b + 12)) (C := RX6) (T := TX6) (N := 5) hx hb hts hin6 hown hO.1 hP.1 0 rfl rfl 2 (by decide) hf_23 (fun _ h9 => h9) rfl dX6_jam_24 ?_
    refine lv_lload_n hx hb dX6_jam_27 rfl (lv_at hl 2 rfl) ?_
    refine va_putN (D := G.1) (ci := 2) (v := .long sd) (ty := .long) (C := RX4) (T := TX4) (N := 14) hx hb hts hin4 tyX4 tyX4_ok nmX4 hown hO.1 (cb_fl hP) (cb_D hA) hS 0 rfl rfl 10 (by decide) (va_Nw.use rfl (hO.2 _ (List.mem_of_getElem? (i := 13) rfl))) (fun _ h9 => h9) rfl (by decide +kernel) rfl rfl (Nat.le_of_ble_eq_true rfl) dX6_jam_28 (fun H locs hP hD hS => ?_)
    have hP : Cb G b (yR (yR (yR X (xN X)) (wU (xR (yR X (xN X))) 2)) (wH (xR (yR (yR X (xN X)) (wU (xR (yR X (xN X))) 2))) sd)) H := cb_pH hP
    refine lv_aload_n hx hb dX6_jam_31 rfl (lv_at hl 0 rfl) ?_
    refine va_get (D := G.1) (ci := 4) (v := .ref (b + 12)) (C := RX6) (T := TX6) (N := 5) hx hb hts hin6 hown hO.1 hP.1 0 rfl rfl 2 (by decide) hf_23 (fun _ h9 => h9) rfl dX6_jam_32 ?_
    refine lv_iload_n hx hb dX6_jam_35 rfl (lv_at hl 1 rfl) ?_
    refine cl_mi (rVN (As := [.int len]) (rest := []) ⟨hx, hb, hml, hown, hts⟩ (c_X4_fillWith l G (b + 12) (xR (yR (yR (yR X (xN X)) (wU (xR (yR X (xN X))) 2)) (wH (xR (yR (yR X (xN X)) (wU (xR (yR X (xN X))) 2))) sd))) len) ⟨va_cnB 1 hts gX6_jam_X4_fillWith_n259 rfl rfl rfl (hO.2 _ (List.mem_of_getElem? (i := 69) rfl)) (hts (.initialized RX4) (by decide +kernel)) (by decide +kernel) ⟨Nat.le_of_ble_eq_true rfl, Nat.le_of_ble_eq_true rfl⟩, hts (.instanceMethod yX4_fillWith) (by decide +kernel), hts (.selects RX4 yX4_fillWith yX4_fillWith) (by decide +kernel)⟩ (st_recv hO hP.2.2.2.1) hP.2.2.2.1 hO rfl hl.1 (Nat.le_of_ble_eq_true rfl) dX6_jam_36 ⟨Nat.le_of_ble_eq_true rfl, Nat.le_of_ble_eq_true rfl⟩) hS (fun q h => hA q (by simp only [blk, blk2, blkh] at *; omega)) (fun H locs hP1 hz hk hS => ?_)
    have hP : Cb G b (yR (yR (yR (yR X (xN X)) (wU (xR (yR X (xN X))) 2)) (wH (xR (yR (yR X (xN X)) (wU (xR (yR X (xN X))) 2))) sd)) ((h_X4_fillWith (xR (yR (yR (yR X (xN X)) (wU (xR (yR X (xN X))) 2)) (wH (xR (yR (yR X (xN X)) (wU (xR (yR X (xN X))) 2))) sd))) len).2)) H := cb_trial hP hP1 hk
    have hE : h_X6_jam X len sd = .inr ((h_X4_fillWith (xR (yR (yR (yR X (xN X)) (wU (xR (yR X (xN X))) 2)) (wH (xR (yR (yR X (xN X)) (wU (xR (yR X (xN X))) 2))) sd))) len).1, (yR (yR (yR (yR X (xN X)) (wU (xR (yR X (xN X))) 2)) (wH (xR (yR (yR X (xN X)) (wU (xR (yR X (xN X))) 2))) sd)) ((h_X4_fillWith (xR (yR (yR (yR X (xN X)) (wU (xR (yR X (xN X))) 2)) (wH (xR (yR (yR X (xN X)) (wU (xR (yR X (xN X))) 2))) sd))) len).2))) := (by rw [h_X6_jam, if_neg c_1])
    exact W.widen (k := 1) (n := 6) (Nat.le_of_ble_eq_true rfl) (Nat.le_of_ble_eq_true rfl) (vx_ret (W.iret hx hb hr (fun t ht hW => ⟨_, _, hE, rfl, by rw [ht]; exact hP, hS.F ht⟩) hS.2.2 dX6_jam_39))
