def h_X6_hydrant (X : Cx) (x : Int32) (on : Int32) : String ⊕ (Int32 × Cx) :=
  if (f_X6_requireCell x) = 0 then .inl "java/lang/IndexOutOfBoundsException" else
  if (f_X4_allowsHydrant (xN X) x on) = 0 then .inl "java/lang/IllegalStateException" else
  .inr ((h_X4_putHydrant (xN (yH (yN X (hT (h_X0_remember (xH X, xN X)))) (hH (h_X0_remember (xH X, xN X))))) x on).1, (yN (yH (yN X (hT (h_X0_remember (xH X, xN X)))) (hH (h_X0_remember (xH X, xN X)))) ((h_X4_putHydrant (xN (yH (yN X (hT (h_X0_remember (xH X, xN X)))) (hH (h_X0_remember (xH X, xN X))))) x on).2)))
set_option maxHeartbeats 4000000 in
set_option maxRecDepth 100000 in
theorem c_X6_hydrant (l : Launch) (G : GG) (b : Nat) (X : Cx) (x : Int32) (on : Int32) (hst : l.stackTraces = false) (hO14 : qO (xH X) < 14) (hK14 : qK (xH X) ≤ 14) : vx_Met l yX6_hydrant wsX6_hydrant ({ frames := 9, cells := 1, slots := 6, locals := 140 }) (PcT G (blk b (b + 170)) [.ref b, .int x, .int on] (Cb G b X)) (QX (h_X6_hydrant X x on) (Cb G b) (blk b (b + 170))) (XX (h_X6_hydrant X x on)) 1 6 (blk b (b + 170)) := by
  refine metX (cc := cX6_hydrant) (maxL := 3) (ret := (some .int)) (by decide) rfl ?_
  intro p e s m below meth cd hx hb hr hml hown hts hlocks hno hP hO hTh
  have hin6 : ∀ w ∈ u_ws RX6 TX6 5, w ∈ wsX6_hydrant := by decide +kernel
  have hf_19 := hts (.fieldLink RX6 19 "CurbCars" "now" "LCurbCars$Street;") (by decide +kernel)
  have hf_29 := hts (.fieldLink RX6 29 "CurbCars" "history" "LCurbCars$History;") (by decide +kernel)
  have hA : ∀ q, (blk b (b + 170)) q → (blk b (b + 170)) q := fun _ h => h
  have hS : va_S (blk b (b + 170)) s.heap s.heap [] := va_S.rf
  have hl := lv_entry ([.ref b, .int x, .int on]) (n := 3) (Nat.le_of_ble_eq_true rfl)
  rw [lg_entry_eq]
  generalize (lg_sl ([.ref b, .int x, .int on]) ++ List.replicate (3 - (lg_sl ([.ref b, .int x, .int on])).length) Slot.unset).toArray = ls at hl ⊢
  have hl : lv_has ls 3 [(0, .ref b), (1, .int x), (2, .int on)] := hl
  refine lv_iload_n hx hb dX6_hydrant_0 rfl (lv_at hl 1 rfl) ?_
  by_cases c_1 : (f_X6_requireCell x) = 0
  · have hE : h_X6_hydrant X x on = .inl "java/lang/IndexOutOfBoundsException" := (by rw [h_X6_hydrant, if_pos c_1])
    exact cl_tx (xZ (As := [.int x]) (rest := []) ⟨hx, hb, hml, hown, hts⟩ (c_X6_requireCell_t l G (blk b (b + 170)) x hst c_1) (va_cwS 1 hts gX6_hydrant_X6_requireCell rfl rfl rfl (by decide +kernel) ⟨Nat.le_of_ble_eq_true rfl, Nat.le_of_ble_eq_true rfl⟩) trivial hO (fun U hU hW => hTh.warm hW hU) rfl hl.1 (Nat.le_of_ble_eq_true rfl) dX6_hydrant_1 ⟨Nat.le_of_ble_eq_true rfl, Nat.le_of_ble_eq_true rfl⟩) (fun q h => h) hno hlocks (Nat.le_of_ble_eq_true rfl) (Nat.le_of_ble_eq_true rfl) (fun t h => ⟨hE, h⟩)
  · refine cl_pv (rS (As := [.int x]) (rest := []) ⟨hx, hb, hml, hown, hts⟩ (c_X6_requireCell_n l G x c_1) (va_cwS 1 hts gX6_hydrant_X6_requireCell rfl rfl rfl (by decide +kernel) ⟨Nat.le_of_ble_eq_true rfl, Nat.le_of_ble_eq_true rfl⟩) trivial hO rfl hl.1 (Nat.le_of_ble_eq_true rfl) dX6_hydrant_1 ⟨Nat.le_of_ble_eq_true rfl, Nat.le_of_ble_eq_true rfl⟩) ?_
    refine lv_aload_n hx hb dX6_hydrant_4 rfl (lv_at hl 0 rfl) ?_
    refine va_get (D := G.1) (ci := 4) (v := .ref (b + 3)) (C := RX6) (T := TX6) (N := 5) hx hb hts hin6 hown hO.1 hP.1 0 rfl rfl 1 (by decide) hf_19 (fun _ h9 => h9) rfl dX6_hydrant_5 ?_
    refine lv_iload_n hx hb dX6_hydrant_8 rfl (lv_at hl 1 rfl) ?_
    refine lv_iload_n hx hb dX6_hydrant_9 rfl (lv_at hl 2 rfl) ?_
    refine cl_pi (rVN (As := [.int x, .int on]) (rest := []) ⟨hx, hb, hml, hown, hts⟩ (c_X4_allowsHydrant l G (b + 3) (xN X) x on) ⟨va_cnB 2 hts gX6_hydrant_X4_allowsHydrant_n173 rfl rfl rfl (hO.2 _ (List.mem_of_getElem? (i := 77) rfl)) (hts (.initialized RX4) (by decide +kernel)) (by decide +kernel) ⟨Nat.le_of_ble_eq_true rfl, Nat.le_of_ble_eq_true rfl⟩, hts (.instanceMethod yX4_allowsHydrant) (by decide +kernel), hts (.selects RX4 yX4_allowsHydrant yX4_allowsHydrant) (by decide +kernel)⟩ (st_recv hO hP.2.2.1) hP.2.2.1 hO rfl hl.1 (Nat.le_of_ble_eq_true rfl) dX6_hydrant_10 ⟨Nat.le_of_ble_eq_true rfl, Nat.le_of_ble_eq_true rfl⟩) ?_
    refine lv_if_ne (tgt := 26) hx hb dX6_hydrant_13 (by decide) (fun c_2 => ?_) (fun c_2 => ?_)
    · refine lv_aload_n hx hb dX6_hydrant_26 rfl (lv_at hl 0 rfl) ?_
      refine va_get (D := G.1) (ci := 4) (v := .ref (b + 21)) (C := RX6) (T := TX6) (N := 5) hx hb hts hin6 hown hO.1 hP.1 0 rfl rfl 3 (by decide) hf_29 (fun _ h9 => h9) rfl dX6_hydrant_27 ?_
      refine lv_aload_n hx hb dX6_hydrant_30 rfl (lv_at hl 0 rfl) ?_
      refine va_get (D := G.1) (ci := 4) (v := .ref (b + 3)) (C := RX6) (T := TX6) (N := 5) hx hb hts hin6 hown hO.1 hP.1 0 rfl rfl 1 (by decide) hf_19 (fun _ h9 => h9) rfl dX6_hydrant_31 ?_
      refine cl_mv (rVN (As := [.ref (b + 3)]) (rest := []) ⟨hx, hb, hml, hown, hts⟩ (c_X0_remember l G (b + 21) (b + 3) (xH X, xN X) (by omega) hO14 hK14) ⟨va_cnB 1 hts gX6_hydrant_X0_remember_n179 rfl rfl rfl (hO.2 _ (List.mem_of_getElem? (i := 53) rfl)) (hts (.initialized RX0) (by decide +kernel)) (by decide +kernel) ⟨Nat.le_of_ble_eq_true rfl, Nat.le_of_ble_eq_true rfl⟩, hts (.instanceMethod yX0_remember) (by decide +kernel), hts (.selects RX0 yX0_remember yX0_remember) (by decide +kernel)⟩ (hs_recv0 hO hP.2.2.2.2.1) (P_app.mpr ⟨hP.2.2.2.2.1, hP.2.2.1⟩) hO rfl hl.1 (Nat.le_of_ble_eq_true rfl) dX6_hydrant_34 ⟨Nat.le_of_ble_eq_true rfl, Nat.le_of_ble_eq_true rfl⟩) hS (fun q h => hA q (by simp only [blk, blk2, blkh] at *; omega)) (fun H locs hP1 hz hk hS => ?_)
      have hP : Cb G b (yH (yN X (hT (h_X0_remember (xH X, xN X)))) (hH (h_X0_remember (xH X, xN X)))) H := cb_hist2 hP hP1 hk
      refine lv_aload_n hx hb dX6_hydrant_37 rfl (lv_at hl 0 rfl) ?_
      refine va_get (D := G.1) (ci := 4) (v := .ref (b + 3)) (C := RX6) (T := TX6) (N := 5) hx hb hts hin6 hown hO.1 hP.1 0 rfl rfl 1 (by decide) hf_19 (fun _ h9 => h9) rfl dX6_hydrant_38 ?_
      refine lv_iload_n hx hb dX6_hydrant_41 rfl (lv_at hl 1 rfl) ?_
      refine lv_iload_n hx hb dX6_hydrant_42 rfl (lv_at hl 2 rfl) ?_
      refine cl_mi (rVN (As := [.int x, .int on]) (rest := []) ⟨hx, hb, hml, hown, hts⟩ (c_X4_putHydrant l G (b + 3) (xN (yH (yN X (hT (h_X0_remember (xH X, xN X)))) (hH (h_X0_remember (xH X, xN X))))) x on) ⟨va_cnB 2 hts gX6_hydrant_X4_putHydrant_n183 rfl rfl rfl (hO.2 _ (List.mem_of_getElem? (i := 78) rfl)) (hts (.initialized RX4) (by decide +kernel)) (by decide +kernel) ⟨Nat.le_of_ble_eq_true rfl, Nat.le_of_ble_eq_true rfl⟩, hts (.instanceMethod yX4_putHydrant) (by decide +kernel), hts (.selects RX4 yX4_putHydrant yX4_putHydrant) (by decide +kernel)⟩ (st_recv hO hP.2.2.1) hP.2.2.1 hO rfl hl.1 (Nat.le_of_ble_eq_true rfl) dX6_hydrant_43 ⟨Nat.le_of_ble_eq_true rfl, Nat.le_of_ble_eq_true rfl⟩) hS (fun q h => hA q (by simp only [blk, blk2, blkh] at *; omega)) (fun H locs hP1 hz hk hS => ?_)
      have hP : Cb G b (yN (yH (yN X (hT (h_X0_remember (xH X, xN X)))) (hH (h_X0_remember (xH X, xN X)))) ((h_X4_putHydrant (xN (yH (yN X (hT (h_X0_remember (xH X, xN X)))) (hH (h_X0_remember (xH X, xN X))))) x on).2)) H := cb_now hP hP1 hk
      have hE : h_X6_hydrant X x on = .inr ((h_X4_putHydrant (xN (yH (yN X (hT (h_X0_remember (xH X, xN X)))) (hH (h_X0_remember (xH X, xN X))))) x on).1, (yN (yH (yN X (hT (h_X0_remember (xH X, xN X)))) (hH (h_X0_remember (xH X, xN X)))) ((h_X4_putHydrant (xN (yH (yN X (hT (h_X0_remember (xH X, xN X)))) (hH (h_X0_remember (xH X, xN X))))) x on).2))) := (by rw [h_X6_hydrant, if_neg c_1, if_neg c_2])
      exact W.widen (k := 1) (n := 6) (Nat.le_of_ble_eq_true rfl) (Nat.le_of_ble_eq_true rfl) (vx_ret (W.iret hx hb hr (fun t ht hW => ⟨_, _, hE, rfl, by rw [ht]; exact hP, hS.F ht⟩) hS.2.2 dX6_hydrant_46))
    · have hE : h_X6_hydrant X x on = .inl "java/lang/IllegalStateException" := (by rw [h_X6_hydrant, if_neg c_1, if_pos c_2])
      obtain ⟨sa, hsa⟩ := hTh.2.2.2 7 _ rfl
      exact vx_throwS (names := ["java/lang/RuntimeException", "java/lang/Exception"]) (sa := sa) hx hb hst hown (by decide +kernel) (by decide +kernel) (hts (.classLink RX6 51 "java/lang/IllegalStateException") (by decide +kernel)) (hts (.initialized "java/lang/IllegalStateException") (by decide +kernel)) hsa (vx_hat (fun w h => hts w (List.mem_cons_of_mem _ (List.mem_append_left _ (List.mem_append_right _ h)))) thr_sub55 hTh.w) thr_good55 hTh.2.1 hTh.2.2.1 hS (by rw [hml]; exact hl.1) dX6_hydrant_16 dX6_hydrant_19 dX6_hydrant_20 dX6_hydrant_22 dX6_hydrant_25 (fun x hx => (hno x hx).elim) (Nat.le_of_ble_eq_true rfl) (Nat.le_of_ble_eq_true rfl) (Nat.le_of_ble_eq_true rfl) (Nat.le_of_ble_eq_true rfl) hlocks (fun t _ h1 h2 => ⟨hE, h1, fun q hq _ => h2 q hq⟩) hS.2.2 (Nat.le_of_ble_eq_true rfl) (Nat.le_of_ble_eq_true rfl)

def h_X6_come (X : Cx) (len : Int32) (stay : Int32) : String ⊕ (Int32 × Cx) :=
  if (f_X6_requireLength len) = 0 then .inl "java/lang/IllegalArgumentException" else
  if (f_X6_isStay stay) = 0 then .inl "java/lang/IllegalArgumentException" else
  if (f_X4_allCame (xN X)) = 0 then .inr ((h_X4_arrive (xN (yH (yN X (hT (h_X0_remember (xH X, xN X)))) (hH (h_X0_remember (xH X, xN X))))) len stay).1, (yN (yH (yN X (hT (h_X0_remember (xH X, xN X)))) (hH (h_X0_remember (xH X, xN X)))) ((h_X4_arrive (xN (yH (yN X (hT (h_X0_remember (xH X, xN X)))) (hH (h_X0_remember (xH X, xN X))))) len stay).2))) else
  .inl "java/lang/IllegalStateException"
set_option maxHeartbeats 4000000 in
set_option maxRecDepth 100000 in
theorem c_X6_come (l : Launch) (G : GG) (b : Nat) (X : Cx) (len : Int32) (stay : Int32) (hst : l.stackTraces = false) (hO14 : qO (xH X) < 14) (hK14 : qK (xH X) ≤ 14) : vx_Met l yX6_come wsX6_come ({ frames := 9, cells := 1, slots := 6, locals := 140 }) (PcT G (blk b (b + 170)) [.ref b, .int len, .int stay] (Cb G b X)) (QX (h_X6_come X len stay) (Cb G b) (blk b (b + 170))) (XX (h_X6_come X len stay)) 1 6 (blk b (b + 170)) := by
  refine metX (cc := cX6_come) (maxL := 3) (ret := (some .int)) (by decide) rfl ?_
  intro p e s m below meth cd hx hb hr hml hown hts hlocks hno hP hO hTh
  have hin6 : ∀ w ∈ u_ws RX6 TX6 5, w ∈ wsX6_come := by decide +kernel
  have hf_19 := hts (.fieldLink RX6 19 "CurbCars" "now" "LCurbCars$Street;") (by decide +kernel)
  have hf_29 := hts (.fieldLink RX6 29 "CurbCars" "history" "LCurbCars$History;") (by decide +kernel)
  have hA : ∀ q, (blk b (b + 170)) q → (blk b (b + 170)) q := fun _ h => h
  have hS : va_S (blk b (b + 170)) s.heap s.heap [] := va_S.rf
  have hl := lv_entry ([.ref b, .int len, .int stay]) (n := 3) (Nat.le_of_ble_eq_true rfl)
  rw [lg_entry_eq]
  generalize (lg_sl ([.ref b, .int len, .int stay]) ++ List.replicate (3 - (lg_sl ([.ref b, .int len, .int stay])).length) Slot.unset).toArray = ls at hl ⊢
  have hl : lv_has ls 3 [(0, .ref b), (1, .int len), (2, .int stay)] := hl
  refine lv_iload_n hx hb dX6_come_0 rfl (lv_at hl 1 rfl) ?_
  by_cases c_1 : (f_X6_requireLength len) = 0
  · have hE : h_X6_come X len stay = .inl "java/lang/IllegalArgumentException" := (by rw [h_X6_come, if_pos c_1])
    exact cl_tx (xZ (As := [.int len]) (rest := []) ⟨hx, hb, hml, hown, hts⟩ (c_X6_requireLength_t l G (blk b (b + 170)) len hst c_1) (va_cwS 1 hts gX6_come_X6_requireLength rfl rfl rfl (by decide +kernel) ⟨Nat.le_of_ble_eq_true rfl, Nat.le_of_ble_eq_true rfl⟩) trivial hO (fun U hU hW => hTh.warm hW hU) rfl hl.1 (Nat.le_of_ble_eq_true rfl) dX6_come_1 ⟨Nat.le_of_ble_eq_true rfl, Nat.le_of_ble_eq_true rfl⟩) (fun q h => h) hno hlocks (Nat.le_of_ble_eq_true rfl) (Nat.le_of_ble_eq_true rfl) (fun t h => ⟨hE, h⟩)
  · refine cl_pv (rS (As := [.int len]) (rest := []) ⟨hx, hb, hml, hown, hts⟩ (c_X6_requireLength_n l G len c_1) (va_cwS 1 hts gX6_come_X6_requireLength rfl rfl rfl (by decide +kernel) ⟨Nat.le_of_ble_eq_true rfl, Nat.le_of_ble_eq_true rfl⟩) trivial hO rfl hl.1 (Nat.le_of_ble_eq_true rfl) dX6_come_1 ⟨Nat.le_of_ble_eq_true rfl, Nat.le_of_ble_eq_true rfl⟩) ?_
    refine lv_iload_n hx hb dX6_come_4 rfl (lv_at hl 2 rfl) ?_
    refine cl_pi (rS (As := [.int stay]) (rest := []) ⟨hx, hb, hml, hown, hts⟩ (c_X6_isStay l G stay) (va_cwS 1 hts gX6_come_X6_isStay rfl rfl rfl (by decide +kernel) ⟨Nat.le_of_ble_eq_true rfl, Nat.le_of_ble_eq_true rfl⟩) trivial hO rfl hl.1 (Nat.le_of_ble_eq_true rfl) dX6_come_5 ⟨Nat.le_of_ble_eq_true rfl, Nat.le_of_ble_eq_true rfl⟩) ?_
    refine lv_if_ne (tgt := 21) hx hb dX6_come_8 (by decide) (fun c_2 => ?_) (fun c_2 => ?_)
    · refine lv_aload_n hx hb dX6_come_21 rfl (lv_at hl 0 rfl) ?_
      refine va_get (D := G.1) (ci := 4) (v := .ref (b + 3)) (C := RX6) (T := TX6) (N := 5) hx hb hts hin6 hown hO.1 hP.1 0 rfl rfl 1 (by decide) hf_19 (fun _ h9 => h9) rfl dX6_come_22 ?_
      refine cl_pi (rVN (As := []) (rest := []) ⟨hx, hb, hml, hown, hts⟩ (c_X4_allCame l G (b + 3) (xN X)) ⟨va_cnB 0 hts gX6_come_X4_allCame_n195 rfl rfl rfl (hO.2 _ (List.mem_of_getElem? (i := 52) rfl)) (hts (.initialized RX4) (by decide +kernel)) (by decide +kernel) ⟨Nat.le_of_ble_eq_true rfl, Nat.le_of_ble_eq_true rfl⟩, hts (.instanceMethod yX4_allCame) (by decide +kernel), hts (.selects RX4 yX4_allCame yX4_allCame) (by decide +kernel)⟩ (st_recv hO hP.2.2.1) hP.2.2.1 hO rfl hl.1 (Nat.le_of_ble_eq_true rfl) dX6_come_25 ⟨Nat.le_of_ble_eq_true rfl, Nat.le_of_ble_eq_true rfl⟩) ?_
      refine lv_if_eq (tgt := 41) hx hb dX6_come_28 (by decide) (fun c_3 => ?_) (fun c_3 => ?_)
      · refine lv_aload_n hx hb dX6_come_41 rfl (lv_at hl 0 rfl) ?_
        refine va_get (D := G.1) (ci := 4) (v := .ref (b + 21)) (C := RX6) (T := TX6) (N := 5) hx hb hts hin6 hown hO.1 hP.1 0 rfl rfl 3 (by decide) hf_29 (fun _ h9 => h9) rfl dX6_come_42 ?_
        refine lv_aload_n hx hb dX6_come_45 rfl (lv_at hl 0 rfl) ?_
        refine va_get (D := G.1) (ci := 4) (v := .ref (b + 3)) (C := RX6) (T := TX6) (N := 5) hx hb hts hin6 hown hO.1 hP.1 0 rfl rfl 1 (by decide) hf_19 (fun _ h9 => h9) rfl dX6_come_46 ?_
        refine cl_mv (rVN (As := [.ref (b + 3)]) (rest := []) ⟨hx, hb, hml, hown, hts⟩ (c_X0_remember l G (b + 21) (b + 3) (xH X, xN X) (by omega) hO14 hK14) ⟨va_cnB 1 hts gX6_come_X0_remember_n179 rfl rfl rfl (hO.2 _ (List.mem_of_getElem? (i := 53) rfl)) (hts (.initialized RX0) (by decide +kernel)) (by decide +kernel) ⟨Nat.le_of_ble_eq_true rfl, Nat.le_of_ble_eq_true rfl⟩, hts (.instanceMethod yX0_remember) (by decide +kernel), hts (.selects RX0 yX0_remember yX0_remember) (by decide +kernel)⟩ (hs_recv0 hO hP.2.2.2.2.1) (P_app.mpr ⟨hP.2.2.2.2.1, hP.2.2.1⟩) hO rfl hl.1 (Nat.le_of_ble_eq_true rfl) dX6_come_49 ⟨Nat.le_of_ble_eq_true rfl, Nat.le_of_ble_eq_true rfl⟩) hS (fun q h => hA q (by simp only [blk, blk2, blkh] at *; omega)) (fun H locs hP1 hz hk hS => ?_)
        have hP : Cb G b (yH (yN X (hT (h_X0_remember (xH X, xN X)))) (hH (h_X0_remember (xH X, xN X)))) H := cb_hist2 hP hP1 hk
        refine lv_aload_n hx hb dX6_come_52 rfl (lv_at hl 0 rfl) ?_
        refine va_get (D := G.1) (ci := 4) (v := .ref (b + 3)) (C := RX6) (T := TX6) (N := 5) hx hb hts hin6 hown hO.1 hP.1 0 rfl rfl 1 (by decide) hf_19 (fun _ h9 => h9) rfl dX6_come_53 ?_
        refine lv_iload_n hx hb dX6_come_56 rfl (lv_at hl 1 rfl) ?_
        refine lv_iload_n hx hb dX6_come_57 rfl (lv_at hl 2 rfl) ?_
        refine cl_mi (rVN (As := [.int len, .int stay]) (rest := []) ⟨hx, hb, hml, hown, hts⟩ (c_X4_arrive l G (b + 3) (xN (yH (yN X (hT (h_X0_remember (xH X, xN X)))) (hH (h_X0_remember (xH X, xN X))))) len stay) ⟨va_cnB 2 hts gX6_come_X4_arrive_n200 rfl rfl rfl (hO.2 _ (List.mem_of_getElem? (i := 57) rfl)) (hts (.initialized RX4) (by decide +kernel)) (by decide +kernel) ⟨Nat.le_of_ble_eq_true rfl, Nat.le_of_ble_eq_true rfl⟩, hts (.instanceMethod yX4_arrive) (by decide +kernel), hts (.selects RX4 yX4_arrive yX4_arrive) (by decide +kernel)⟩ (st_recv hO hP.2.2.1) hP.2.2.1 hO rfl hl.1 (Nat.le_of_ble_eq_true rfl) dX6_come_58 ⟨Nat.le_of_ble_eq_true rfl, Nat.le_of_ble_eq_true rfl⟩) hS (fun q h => hA q (by simp only [blk, blk2, blkh] at *; omega)) (fun H locs hP1 hz hk hS => ?_)
        have hP : Cb G b (yN (yH (yN X (hT (h_X0_remember (xH X, xN X)))) (hH (h_X0_remember (xH X, xN X)))) ((h_X4_arrive (xN (yH (yN X (hT (h_X0_remember (xH X, xN X)))) (hH (h_X0_remember (xH X, xN X))))) len stay).2)) H := cb_now hP hP1 hk
        have hE : h_X6_come X len stay = .inr ((h_X4_arrive (xN (yH (yN X (hT (h_X0_remember (xH X, xN X)))) (hH (h_X0_remember (xH X, xN X))))) len stay).1, (yN (yH (yN X (hT (h_X0_remember (xH X, xN X)))) (hH (h_X0_remember (xH X, xN X)))) ((h_X4_arrive (xN (yH (yN X (hT (h_X0_remember (xH X, xN X)))) (hH (h_X0_remember (xH X, xN X))))) len stay).2))) := (by rw [h_X6_come, if_neg c_1, if_neg c_2, if_pos c_3])
        exact W.widen (k := 1) (n := 6) (Nat.le_of_ble_eq_true rfl) (Nat.le_of_ble_eq_true rfl) (vx_ret (W.iret hx hb hr (fun t ht hW => ⟨_, _, hE, rfl, by rw [ht]; exact hP, hS.F ht⟩) hS.2.2 dX6_come_61))
      · have hE : h_X6_come X len stay = .inl "java/lang/IllegalStateException" := (by rw [h_X6_come, if_neg c_1, if_neg c_2, if_neg c_3])
        obtain ⟨sa, hsa⟩ := hTh.2.2.2 5 _ rfl
        exact vx_throwS (names := ["java/lang/RuntimeException", "java/lang/Exception"]) (sa := sa) hx hb hst hown (by decide +kernel) (by decide +kernel) (hts (.classLink RX6 51 "java/lang/IllegalStateException") (by decide +kernel)) (hts (.initialized "java/lang/IllegalStateException") (by decide +kernel)) hsa (vx_hat (fun w h => hts w (List.mem_cons_of_mem _ (List.mem_append_right _ h))) thr_sub55 hTh.w) thr_good55 hTh.2.1 hTh.2.2.1 hS (by rw [hml]; exact hl.1) dX6_come_31 dX6_come_34 dX6_come_35 dX6_come_37 dX6_come_40 (fun x hx => (hno x hx).elim) (Nat.le_of_ble_eq_true rfl) (Nat.le_of_ble_eq_true rfl) (Nat.le_of_ble_eq_true rfl) (Nat.le_of_ble_eq_true rfl) hlocks (fun t _ h1 h2 => ⟨hE, h1, fun q hq _ => h2 q hq⟩) hS.2.2 (Nat.le_of_ble_eq_true rfl) (Nat.le_of_ble_eq_true rfl)
    · have hE : h_X6_come X len stay = .inl "java/lang/IllegalArgumentException" := (by rw [h_X6_come, if_neg c_1, if_pos c_2])
      obtain ⟨sa, hsa⟩ := hTh.2.2.2 4 _ rfl
      exact vx_throwS (names := ["java/lang/RuntimeException", "java/lang/Exception"]) (sa := sa) hx hb hst hown (by decide +kernel) (by decide +kernel) (hts (.classLink RX6 40 "java/lang/IllegalArgumentException") (by decide +kernel)) (hts (.initialized "java/lang/IllegalArgumentException") (by decide +kernel)) hsa (vx_hat (fun w h => hts w (List.mem_cons_of_mem _ (List.mem_append_left _ (List.mem_append_right _ h)))) thr_sub44 hTh.w) thr_good44 hTh.2.1 hTh.2.2.1 hS (by rw [hml]; exact hl.1) dX6_come_11 dX6_come_14 dX6_come_15 dX6_come_17 dX6_come_20 (fun x hx => (hno x hx).elim) (Nat.le_of_ble_eq_true rfl) (Nat.le_of_ble_eq_true rfl) (Nat.le_of_ble_eq_true rfl) (Nat.le_of_ble_eq_true rfl) hlocks (fun t _ h1 h2 => ⟨hE, h1, fun q hq _ => h2 q hq⟩) hS.2.2 (Nat.le_of_ble_eq_true rfl) (Nat.le_of_ble_eq_true rfl)

def h_X6_leave (X : Cx) (c : Int32) : String ⊕ (Int32 × Cx) :=
  if (f_X6_requireCar X c) = 0 then .inl "java/lang/IndexOutOfBoundsException" else
  if (f_X6_requireParked X c) = 0 then .inl "java/lang/IllegalStateException" else
  .inr ((h_X4_depart (xN (yH (yN X (hT (h_X0_remember (xH X, xN X)))) (hH (h_X0_remember (xH X, xN X))))) c 2).1, (yN (yH (yN X (hT (h_X0_remember (xH X, xN X)))) (hH (h_X0_remember (xH X, xN X)))) ((h_X4_depart (xN (yH (yN X (hT (h_X0_remember (xH X, xN X)))) (hH (h_X0_remember (xH X, xN X))))) c 2).2)))
set_option maxHeartbeats 4000000 in
set_option maxRecDepth 100000 in
theorem c_X6_leave (l : Launch) (G : GG) (b : Nat) (X : Cx) (c : Int32) (hst : l.stackTraces = false) (hO14 : qO (xH X) < 14) (hK14 : qK (xH X) ≤ 14) : vx_Met l yX6_leave wsX6_leave ({ frames := 9, cells := 1, slots := 6, locals := 141 }) (PcT G (blk b (b + 170)) [.ref b, .int c] (Cb G b X)) (QX (h_X6_leave X c) (Cb G b) (blk b (b + 170))) (XX (h_X6_leave X c)) 1 6 (blk b (b + 170)) := by
  refine metX (cc := cX6_leave) (maxL := 2) (ret := (some .int)) (by decide) rfl ?_
  intro p e s m below meth cd hx hb hr hml hown hts hlocks hno hP hO hTh
  have hin6 : ∀ w ∈ u_ws RX6 TX6 5, w ∈ wsX6_leave := by decide +kernel
  have hf_19 := hts (.fieldLink RX6 19 "CurbCars" "now" "LCurbCars$Street;") (by decide +kernel)
  have hf_29 := hts (.fieldLink RX6 29 "CurbCars" "history" "LCurbCars$History;") (by decide +kernel)
  have hA : ∀ q, (blk b (b + 170)) q → (blk b (b + 170)) q := fun _ h => h
  have hS : va_S (blk b (b + 170)) s.heap s.heap [] := va_S.rf
  have hl := lv_entry ([.ref b, .int c]) (n := 2) (Nat.le_of_ble_eq_true rfl)
  rw [lg_entry_eq]
  generalize (lg_sl ([.ref b, .int c]) ++ List.replicate (2 - (lg_sl ([.ref b, .int c])).length) Slot.unset).toArray = ls at hl ⊢
  have hl : lv_has ls 2 [(0, .ref b), (1, .int c)] := hl
  refine lv_aload_n hx hb dX6_leave_0 rfl (lv_at hl 0 rfl) ?_
  refine lv_iload_n hx hb dX6_leave_1 rfl (lv_at hl 1 rfl) ?_
  by_cases c_1 : (f_X6_requireCar X c) = 0
  · have hE : h_X6_leave X c = .inl "java/lang/IndexOutOfBoundsException" := (by rw [h_X6_leave, if_pos c_1])
    exact cl_tx (xW (As := [.int c]) (rest := []) ⟨hx, hb, hml, hown, hts⟩ (c_X6_requireCar_t l G b (blk b (b + 170)) X c hst c_1) (cwV 1 hts gX6_leave_X6_requireCar rfl rfl rfl (by decide +kernel) ⟨Nat.le_of_ble_eq_true rfl, Nat.le_of_ble_eq_true rfl⟩) (cb_recv hO hP) hP hO (fun U hU hW => hTh.warm hW hU) rfl hl.1 (Nat.le_of_ble_eq_true rfl) dX6_leave_2 ⟨Nat.le_of_ble_eq_true rfl, Nat.le_of_ble_eq_true rfl⟩) (fun q h => h) hno hlocks (Nat.le_of_ble_eq_true rfl) (Nat.le_of_ble_eq_true rfl) (fun t h => ⟨hE, h⟩)
  · refine cl_pv (rV (As := [.int c]) (rest := []) ⟨hx, hb, hml, hown, hts⟩ (c_X6_requireCar_n l G b X c c_1) (cwV 1 hts gX6_leave_X6_requireCar rfl rfl rfl (by decide +kernel) ⟨Nat.le_of_ble_eq_true rfl, Nat.le_of_ble_eq_true rfl⟩) (cb_recv hO hP) hP hO rfl hl.1 (Nat.le_of_ble_eq_true rfl) dX6_leave_2 ⟨Nat.le_of_ble_eq_true rfl, Nat.le_of_ble_eq_true rfl⟩) ?_
    refine lv_aload_n hx hb dX6_leave_5 rfl (lv_at hl 0 rfl) ?_
    refine lv_iload_n hx hb dX6_leave_6 rfl (lv_at hl 1 rfl) ?_
    by_cases c_2 : (f_X6_requireParked X c) = 0
    · have hE : h_X6_leave X c = .inl "java/lang/IllegalStateException" := (by rw [h_X6_leave, if_neg c_1, if_pos c_2])
      exact cl_tx (xW (As := [.int c]) (rest := []) ⟨hx, hb, hml, hown, hts⟩ (c_X6_requireParked_t l G b (blk b (b + 170)) X c hst c_2) (cwV 1 hts gX6_leave_X6_requireParked rfl rfl rfl (by decide +kernel) ⟨Nat.le_of_ble_eq_true rfl, Nat.le_of_ble_eq_true rfl⟩) (cb_recv hO hP) hP hO (fun U hU hW => hTh.warm hW hU) rfl hl.1 (Nat.le_of_ble_eq_true rfl) dX6_leave_7 ⟨Nat.le_of_ble_eq_true rfl, Nat.le_of_ble_eq_true rfl⟩) (fun q h => h) hno hlocks (Nat.le_of_ble_eq_true rfl) (Nat.le_of_ble_eq_true rfl) (fun t h => ⟨hE, h⟩)
    · refine cl_pv (rV (As := [.int c]) (rest := []) ⟨hx, hb, hml, hown, hts⟩ (c_X6_requireParked_n l G b X c c_2) (cwV 1 hts gX6_leave_X6_requireParked rfl rfl rfl (by decide +kernel) ⟨Nat.le_of_ble_eq_true rfl, Nat.le_of_ble_eq_true rfl⟩) (cb_recv hO hP) hP hO rfl hl.1 (Nat.le_of_ble_eq_true rfl) dX6_leave_7 ⟨Nat.le_of_ble_eq_true rfl, Nat.le_of_ble_eq_true rfl⟩) ?_
      refine lv_aload_n hx hb dX6_leave_10 rfl (lv_at hl 0 rfl) ?_
      refine va_get (D := G.1) (ci := 4) (v := .ref (b + 21)) (C := RX6) (T := TX6) (N := 5) hx hb hts hin6 hown hO.1 hP.1 0 rfl rfl 3 (by decide) hf_29 (fun _ h9 => h9) rfl dX6_leave_11 ?_
      refine lv_aload_n hx hb dX6_leave_14 rfl (lv_at hl 0 rfl) ?_
      refine va_get (D := G.1) (ci := 4) (v := .ref (b + 3)) (C := RX6) (T := TX6) (N := 5) hx hb hts hin6 hown hO.1 hP.1 0 rfl rfl 1 (by decide) hf_19 (fun _ h9 => h9) rfl dX6_leave_15 ?_
      refine cl_mv (rVN (As := [.ref (b + 3)]) (rest := []) ⟨hx, hb, hml, hown, hts⟩ (c_X0_remember l G (b + 21) (b + 3) (xH X, xN X) (by omega) hO14 hK14) ⟨va_cnB 1 hts gX6_leave_X0_remember_n179 rfl rfl rfl (hO.2 _ (List.mem_of_getElem? (i := 53) rfl)) (hts (.initialized RX0) (by decide +kernel)) (by decide +kernel) ⟨Nat.le_of_ble_eq_true rfl, Nat.le_of_ble_eq_true rfl⟩, hts (.instanceMethod yX0_remember) (by decide +kernel), hts (.selects RX0 yX0_remember yX0_remember) (by decide +kernel)⟩ (hs_recv0 hO hP.2.2.2.2.1) (P_app.mpr ⟨hP.2.2.2.2.1, hP.2.2.1⟩) hO rfl hl.1 (Nat.le_of_ble_eq_true rfl) dX6_leave_18 ⟨Nat.le_of_ble_eq_true rfl, Nat.le_of_ble_eq_true rfl⟩) hS (fun q h => hA q (by simp only [blk, blk2, blkh] at *; omega)) (fun H locs hP1 hz hk hS => ?_)
      have hP : Cb G b (yH (yN X (hT (h_X0_remember (xH X, xN X)))) (hH (h_X0_remember (xH X, xN X)))) H := cb_hist2 hP hP1 hk
      refine lv_aload_n hx hb dX6_leave_21 rfl (lv_at hl 0 rfl) ?_
      refine va_get (D := G.1) (ci := 4) (v := .ref (b + 3)) (C := RX6) (T := TX6) (N := 5) hx hb hts hin6 hown hO.1 hP.1 0 rfl rfl 1 (by decide) hf_19 (fun _ h9 => h9) rfl dX6_leave_22 ?_
      refine lv_iload_n hx hb dX6_leave_25 rfl (lv_at hl 1 rfl) ?_
      refine lv_iconst (v := 2) hx hb dX6_leave_26 (by decide) ?_
      refine cl_mi (rVN (As := [.int c, .int 2]) (rest := []) ⟨hx, hb, hml, hown, hts⟩ (c_X4_depart l G (b + 3) (xN (yH (yN X (hT (h_X0_remember (xH X, xN X)))) (hH (h_X0_remember (xH X, xN X))))) c 2) ⟨va_cnB 2 hts gX6_leave_X4_depart_n207 rfl rfl rfl (hO.2 _ (List.mem_of_getElem? (i := 58) rfl)) (hts (.initialized RX4) (by decide +kernel)) (by decide +kernel) ⟨Nat.le_of_ble_eq_true rfl, Nat.le_of_ble_eq_true rfl⟩, hts (.instanceMethod yX4_depart) (by decide +kernel), hts (.selects RX4 yX4_depart yX4_depart) (by decide +kernel)⟩ (st_recv hO hP.2.2.1) hP.2.2.1 hO rfl hl.1 (Nat.le_of_ble_eq_true rfl) dX6_leave_27 ⟨Nat.le_of_ble_eq_true rfl, Nat.le_of_ble_eq_true rfl⟩) hS (fun q h => hA q (by simp only [blk, blk2, blkh] at *; omega)) (fun H locs hP1 hz hk hS => ?_)
      have hP : Cb G b (yN (yH (yN X (hT (h_X0_remember (xH X, xN X)))) (hH (h_X0_remember (xH X, xN X)))) ((h_X4_depart (xN (yH (yN X (hT (h_X0_remember (xH X, xN X)))) (hH (h_X0_remember (xH X, xN X))))) c 2).2)) H := cb_now hP hP1 hk
      have hE : h_X6_leave X c = .inr ((h_X4_depart (xN (yH (yN X (hT (h_X0_remember (xH X, xN X)))) (hH (h_X0_remember (xH X, xN X))))) c 2).1, (yN (yH (yN X (hT (h_X0_remember (xH X, xN X)))) (hH (h_X0_remember (xH X, xN X)))) ((h_X4_depart (xN (yH (yN X (hT (h_X0_remember (xH X, xN X)))) (hH (h_X0_remember (xH X, xN X))))) c 2).2))) := (by rw [h_X6_leave, if_neg c_1, if_neg c_2])
      exact W.widen (k := 1) (n := 6) (Nat.le_of_ble_eq_true rfl) (Nat.le_of_ble_eq_true rfl) (vx_ret (W.iret hx hb hr (fun t ht hW => ⟨_, _, hE, rfl, by rw [ht]; exact hP, hS.F ht⟩) hS.2.2 dX6_leave_30))

def h_X6_tow (X : Cx) (c : Int32) : String ⊕ (Int32 × Cx) :=
  if (f_X6_requireCar X c) = 0 then .inl "java/lang/IndexOutOfBoundsException" else
  if (f_X6_requireParked X c) = 0 then .inl "java/lang/IllegalStateException" else
  .inr (f_X4_minutesLeft (xN (yH (yN X (hT (h_X0_remember (xH X, xN X)))) (hH (h_X0_remember (xH X, xN X))))) c, (yN (yH (yN X (hT (h_X0_remember (xH X, xN X)))) (hH (h_X0_remember (xH X, xN X)))) ((h_X4_depart (xN (yH (yN X (hT (h_X0_remember (xH X, xN X)))) (hH (h_X0_remember (xH X, xN X))))) c 4).2)))
set_option maxHeartbeats 4000000 in
set_option maxRecDepth 100000 in
theorem c_X6_tow (l : Launch) (G : GG) (b : Nat) (X : Cx) (c : Int32) (hst : l.stackTraces = false) (hO14 : qO (xH X) < 14) (hK14 : qK (xH X) ≤ 14) : vx_Met l yX6_tow wsX6_tow ({ frames := 9, cells := 1, slots := 6, locals := 141 }) (PcT G (blk b (b + 170)) [.ref b, .int c] (Cb G b X)) (QX (h_X6_tow X c) (Cb G b) (blk b (b + 170))) (XX (h_X6_tow X c)) 1 6 (blk b (b + 170)) := by
  refine metX (cc := cX6_tow) (maxL := 3) (ret := (some .int)) (by decide) rfl ?_
  intro p e s m below meth cd hx hb hr hml hown hts hlocks hno hP hO hTh
  have hin6 : ∀ w ∈ u_ws RX6 TX6 5, w ∈ wsX6_tow := by decide +kernel
  have hf_19 := hts (.fieldLink RX6 19 "CurbCars" "now" "LCurbCars$Street;") (by decide +kernel)
  have hf_29 := hts (.fieldLink RX6 29 "CurbCars" "history" "LCurbCars$History;") (by decide +kernel)
  have hA : ∀ q, (blk b (b + 170)) q → (blk b (b + 170)) q := fun _ h => h
  have hS : va_S (blk b (b + 170)) s.heap s.heap [] := va_S.rf
  have hl := lv_entry ([.ref b, .int c]) (n := 3) (Nat.le_of_ble_eq_true rfl)
  rw [lg_entry_eq]
  generalize (lg_sl ([.ref b, .int c]) ++ List.replicate (3 - (lg_sl ([.ref b, .int c])).length) Slot.unset).toArray = ls at hl ⊢
  have hl : lv_has ls 3 [(0, .ref b), (1, .int c)] := hl
  refine lv_aload_n hx hb dX6_tow_0 rfl (lv_at hl 0 rfl) ?_
  refine lv_iload_n hx hb dX6_tow_1 rfl (lv_at hl 1 rfl) ?_
  by_cases c_1 : (f_X6_requireCar X c) = 0
  · have hE : h_X6_tow X c = .inl "java/lang/IndexOutOfBoundsException" := (by rw [h_X6_tow, if_pos c_1])
    exact cl_tx (xW (As := [.int c]) (rest := []) ⟨hx, hb, hml, hown, hts⟩ (c_X6_requireCar_t l G b (blk b (b + 170)) X c hst c_1) (cwV 1 hts gX6_tow_X6_requireCar rfl rfl rfl (by decide +kernel) ⟨Nat.le_of_ble_eq_true rfl, Nat.le_of_ble_eq_true rfl⟩) (cb_recv hO hP) hP hO (fun U hU hW => hTh.warm hW hU) rfl hl.1 (Nat.le_of_ble_eq_true rfl) dX6_tow_2 ⟨Nat.le_of_ble_eq_true rfl, Nat.le_of_ble_eq_true rfl⟩) (fun q h => h) hno hlocks (Nat.le_of_ble_eq_true rfl) (Nat.le_of_ble_eq_true rfl) (fun t h => ⟨hE, h⟩)
  · refine cl_pv (rV (As := [.int c]) (rest := []) ⟨hx, hb, hml, hown, hts⟩ (c_X6_requireCar_n l G b X c c_1) (cwV 1 hts gX6_tow_X6_requireCar rfl rfl rfl (by decide +kernel) ⟨Nat.le_of_ble_eq_true rfl, Nat.le_of_ble_eq_true rfl⟩) (cb_recv hO hP) hP hO rfl hl.1 (Nat.le_of_ble_eq_true rfl) dX6_tow_2 ⟨Nat.le_of_ble_eq_true rfl, Nat.le_of_ble_eq_true rfl⟩) ?_
    refine lv_aload_n hx hb dX6_tow_5 rfl (lv_at hl 0 rfl) ?_
    refine lv_iload_n hx hb dX6_tow_6 rfl (lv_at hl 1 rfl) ?_
    by_cases c_2 : (f_X6_requireParked X c) = 0
    · have hE : h_X6_tow X c = .inl "java/lang/IllegalStateException" := (by rw [h_X6_tow, if_neg c_1, if_pos c_2])
      exact cl_tx (xW (As := [.int c]) (rest := []) ⟨hx, hb, hml, hown, hts⟩ (c_X6_requireParked_t l G b (blk b (b + 170)) X c hst c_2) (cwV 1 hts gX6_tow_X6_requireParked rfl rfl rfl (by decide +kernel) ⟨Nat.le_of_ble_eq_true rfl, Nat.le_of_ble_eq_true rfl⟩) (cb_recv hO hP) hP hO (fun U hU hW => hTh.warm hW hU) rfl hl.1 (Nat.le_of_ble_eq_true rfl) dX6_tow_7 ⟨Nat.le_of_ble_eq_true rfl, Nat.le_of_ble_eq_true rfl⟩) (fun q h => h) hno hlocks (Nat.le_of_ble_eq_true rfl) (Nat.le_of_ble_eq_true rfl) (fun t h => ⟨hE, h⟩)
    · refine cl_pv (rV (As := [.int c]) (rest := []) ⟨hx, hb, hml, hown, hts⟩ (c_X6_requireParked_n l G b X c c_2) (cwV 1 hts gX6_tow_X6_requireParked rfl rfl rfl (by decide +kernel) ⟨Nat.le_of_ble_eq_true rfl, Nat.le_of_ble_eq_true rfl⟩) (cb_recv hO hP) hP hO rfl hl.1 (Nat.le_of_ble_eq_true rfl) dX6_tow_7 ⟨Nat.le_of_ble_eq_true rfl, Nat.le_of_ble_eq_true rfl⟩) ?_
      refine lv_aload_n hx hb dX6_tow_10 rfl (lv_at hl 0 rfl) ?_
      refine va_get (D := G.1) (ci := 4) (v := .ref (b + 21)) (C := RX6) (T := TX6) (N := 5) hx hb hts hin6 hown hO.1 hP.1 0 rfl rfl 3 (by decide) hf_29 (fun _ h9 => h9) rfl dX6_tow_11 ?_
      refine lv_aload_n hx hb dX6_tow_14 rfl (lv_at hl 0 rfl) ?_
      refine va_get (D := G.1) (ci := 4) (v := .ref (b + 3)) (C := RX6) (T := TX6) (N := 5) hx hb hts hin6 hown hO.1 hP.1 0 rfl rfl 1 (by decide) hf_19 (fun _ h9 => h9) rfl dX6_tow_15 ?_
      refine cl_mv (rVN (As := [.ref (b + 3)]) (rest := []) ⟨hx, hb, hml, hown, hts⟩ (c_X0_remember l G (b + 21) (b + 3) (xH X, xN X) (by omega) hO14 hK14) ⟨va_cnB 1 hts gX6_tow_X0_remember_n179 rfl rfl rfl (hO.2 _ (List.mem_of_getElem? (i := 53) rfl)) (hts (.initialized RX0) (by decide +kernel)) (by decide +kernel) ⟨Nat.le_of_ble_eq_true rfl, Nat.le_of_ble_eq_true rfl⟩, hts (.instanceMethod yX0_remember) (by decide +kernel), hts (.selects RX0 yX0_remember yX0_remember) (by decide +kernel)⟩ (hs_recv0 hO hP.2.2.2.2.1) (P_app.mpr ⟨hP.2.2.2.2.1, hP.2.2.1⟩) hO rfl hl.1 (Nat.le_of_ble_eq_true rfl) dX6_tow_18 ⟨Nat.le_of_ble_eq_true rfl, Nat.le_of_ble_eq_true rfl⟩) hS (fun q h => hA q (by simp only [blk, blk2, blkh] at *; omega)) (fun H locs hP1 hz hk hS => ?_)
      have hP : Cb G b (yH (yN X (hT (h_X0_remember (xH X, xN X)))) (hH (h_X0_remember (xH X, xN X)))) H := cb_hist2 hP hP1 hk
      refine lv_aload_n hx hb dX6_tow_21 rfl (lv_at hl 0 rfl) ?_
      refine va_get (D := G.1) (ci := 4) (v := .ref (b + 3)) (C := RX6) (T := TX6) (N := 5) hx hb hts hin6 hown hO.1 hP.1 0 rfl rfl 1 (by decide) hf_19 (fun _ h9 => h9) rfl dX6_tow_22 ?_
      refine lv_iload_n hx hb dX6_tow_25 rfl (lv_at hl 1 rfl) ?_
      refine cl_pi (rVN (As := [.int c]) (rest := []) ⟨hx, hb, hml, hown, hts⟩ (c_X4_minutesLeft l G (b + 3) (xN (yH (yN X (hT (h_X0_remember (xH X, xN X)))) (hH (h_X0_remember (xH X, xN X))))) c) ⟨va_cnB 1 hts gX6_tow_X4_minutesLeft_n143 rfl rfl rfl (hO.2 _ (List.mem_of_getElem? (i := 49) rfl)) (hts (.initialized RX4) (by decide +kernel)) (by decide +kernel) ⟨Nat.le_of_ble_eq_true rfl, Nat.le_of_ble_eq_true rfl⟩, hts (.instanceMethod yX4_minutesLeft) (by decide +kernel), hts (.selects RX4 yX4_minutesLeft yX4_minutesLeft) (by decide +kernel)⟩ (st_recv hO hP.2.2.1) hP.2.2.1 hO rfl hl.1 (Nat.le_of_ble_eq_true rfl) dX6_tow_26 ⟨Nat.le_of_ble_eq_true rfl, Nat.le_of_ble_eq_true rfl⟩) ?_
      refine lv_istore_n (lv' := [(2, .int (f_X4_minutesLeft (xN (yH (yN X (hT (h_X0_remember (xH X, xN X)))) (hH (h_X0_remember (xH X, xN X))))) c)), (0, .ref b), (1, .int c)]) hx hb dX6_tow_29 rfl hl (by decide) rfl (fun ls hl => ?_)
      refine lv_aload_n hx hb dX6_tow_30 rfl (lv_at hl 1 rfl) ?_
      refine va_get (D := G.1) (ci := 4) (v := .ref (b + 3)) (C := RX6) (T := TX6) (N := 5) hx hb hts hin6 hown hO.1 hP.1 0 rfl rfl 1 (by decide) hf_19 (fun _ h9 => h9) rfl dX6_tow_31 ?_
      refine lv_iload_n hx hb dX6_tow_34 rfl (lv_at hl 2 rfl) ?_
      refine lv_iconst (v := 4) hx hb dX6_tow_35 (by decide) ?_
      refine cl_mi (rVN (As := [.int c, .int 4]) (rest := []) ⟨hx, hb, hml, hown, hts⟩ (c_X4_depart l G (b + 3) (xN (yH (yN X (hT (h_X0_remember (xH X, xN X)))) (hH (h_X0_remember (xH X, xN X))))) c 4) ⟨va_cnB 2 hts gX6_tow_X4_depart_n207 rfl rfl rfl (hO.2 _ (List.mem_of_getElem? (i := 58) rfl)) (hts (.initialized RX4) (by decide +kernel)) (by decide +kernel) ⟨Nat.le_of_ble_eq_true rfl, Nat.le_of_ble_eq_true rfl⟩, hts (.instanceMethod yX4_depart) (by decide +kernel), hts (.selects RX4 yX4_depart yX4_depart) (by decide +kernel)⟩ (st_recv hO hP.2.2.1) hP.2.2.1 hO rfl hl.1 (Nat.le_of_ble_eq_true rfl) dX6_tow_36 ⟨Nat.le_of_ble_eq_true rfl, Nat.le_of_ble_eq_true rfl⟩) hS (fun q h => hA q (by simp only [blk, blk2, blkh] at *; omega)) (fun H locs hP1 hz hk hS => ?_)
      have hP : Cb G b (yN (yH (yN X (hT (h_X0_remember (xH X, xN X)))) (hH (h_X0_remember (xH X, xN X)))) ((h_X4_depart (xN (yH (yN X (hT (h_X0_remember (xH X, xN X)))) (hH (h_X0_remember (xH X, xN X))))) c 4).2)) H := cb_now hP hP1 hk
      refine lv_pop hx hb dX6_tow_39 rfl ?_
      refine lv_iload_n hx hb dX6_tow_40 rfl (lv_at hl 0 rfl) ?_
      have hE : h_X6_tow X c = .inr (f_X4_minutesLeft (xN (yH (yN X (hT (h_X0_remember (xH X, xN X)))) (hH (h_X0_remember (xH X, xN X))))) c, (yN (yH (yN X (hT (h_X0_remember (xH X, xN X)))) (hH (h_X0_remember (xH X, xN X)))) ((h_X4_depart (xN (yH (yN X (hT (h_X0_remember (xH X, xN X)))) (hH (h_X0_remember (xH X, xN X))))) c 4).2))) := (by rw [h_X6_tow, if_neg c_1, if_neg c_2])
      exact W.widen (k := 1) (n := 6) (Nat.le_of_ble_eq_true rfl) (Nat.le_of_ble_eq_true rfl) (vx_ret (W.iret hx hb hr (fun t ht hW => ⟨_, _, hE, rfl, by rw [ht]; exact hP, hS.F ht⟩) hS.2.2 dX6_tow_41))

def h_X6_move (X : Cx) (c : Int32) (x : Int32) : String ⊕ (Int32 × Cx) :=
  if (f_X6_requireCar X c) = 0 then .inl "java/lang/IndexOutOfBoundsException" else
  if (f_X6_requireCell x) = 0 then .inl "java/lang/IndexOutOfBoundsException" else
  if (f_X4_canShift (xN X) c x) = 0 then .inl "java/lang/IllegalStateException" else
  .inr ((h_X4_shift (xN (yH (yN X (hT (h_X0_remember (xH X, xN X)))) (hH (h_X0_remember (xH X, xN X))))) c x).1, (yN (yH (yN X (hT (h_X0_remember (xH X, xN X)))) (hH (h_X0_remember (xH X, xN X)))) ((h_X4_shift (xN (yH (yN X (hT (h_X0_remember (xH X, xN X)))) (hH (h_X0_remember (xH X, xN X))))) c x).2)))
set_option maxHeartbeats 4000000 in
set_option maxRecDepth 100000 in
theorem c_X6_move (l : Launch) (G : GG) (b : Nat) (X : Cx) (c : Int32) (x : Int32) (hst : l.stackTraces = false) (hO14 : qO (xH X) < 14) (hK14 : qK (xH X) ≤ 14) : vx_Met l yX6_move wsX6_move ({ frames := 9, cells := 1, slots := 6, locals := 141 }) (PcT G (blk b (b + 170)) [.ref b, .int c, .int x] (Cb G b X)) (QX (h_X6_move X c x) (Cb G b) (blk b (b + 170))) (XX (h_X6_move X c x)) 1 6 (blk b (b + 170)) := by
  refine metX (cc := cX6_move) (maxL := 3) (ret := (some .int)) (by decide) rfl ?_
  intro p e s m below meth cd hx hb hr hml hown hts hlocks hno hP hO hTh
  have hin6 : ∀ w ∈ u_ws RX6 TX6 5, w ∈ wsX6_move := by decide +kernel
  have hf_19 := hts (.fieldLink RX6 19 "CurbCars" "now" "LCurbCars$Street;") (by decide +kernel)
  have hf_29 := hts (.fieldLink RX6 29 "CurbCars" "history" "LCurbCars$History;") (by decide +kernel)
  have hA : ∀ q, (blk b (b + 170)) q → (blk b (b + 170)) q := fun _ h => h
  have hS : va_S (blk b (b + 170)) s.heap s.heap [] := va_S.rf
  have hl := lv_entry ([.ref b, .int c, .int x]) (n := 3) (Nat.le_of_ble_eq_true rfl)
  rw [lg_entry_eq]
  generalize (lg_sl ([.ref b, .int c, .int x]) ++ List.replicate (3 - (lg_sl ([.ref b, .int c, .int x])).length) Slot.unset).toArray = ls at hl ⊢
  have hl : lv_has ls 3 [(0, .ref b), (1, .int c), (2, .int x)] := hl
  refine lv_aload_n hx hb dX6_move_0 rfl (lv_at hl 0 rfl) ?_
  refine lv_iload_n hx hb dX6_move_1 rfl (lv_at hl 1 rfl) ?_
  by_cases c_1 : (f_X6_requireCar X c) = 0
  · have hE : h_X6_move X c x = .inl "java/lang/IndexOutOfBoundsException" := (by rw [h_X6_move, if_pos c_1])
    exact cl_tx (xW (As := [.int c]) (rest := []) ⟨hx, hb, hml, hown, hts⟩ (c_X6_requireCar_t l G b (blk b (b + 170)) X c hst c_1) (cwV 1 hts gX6_move_X6_requireCar rfl rfl rfl (by decide +kernel) ⟨Nat.le_of_ble_eq_true rfl, Nat.le_of_ble_eq_true rfl⟩) (cb_recv hO hP) hP hO (fun U hU hW => hTh.warm hW hU) rfl hl.1 (Nat.le_of_ble_eq_true rfl) dX6_move_2 ⟨Nat.le_of_ble_eq_true rfl, Nat.le_of_ble_eq_true rfl⟩) (fun q h => h) hno hlocks (Nat.le_of_ble_eq_true rfl) (Nat.le_of_ble_eq_true rfl) (fun t h => ⟨hE, h⟩)
  · refine cl_pv (rV (As := [.int c]) (rest := []) ⟨hx, hb, hml, hown, hts⟩ (c_X6_requireCar_n l G b X c c_1) (cwV 1 hts gX6_move_X6_requireCar rfl rfl rfl (by decide +kernel) ⟨Nat.le_of_ble_eq_true rfl, Nat.le_of_ble_eq_true rfl⟩) (cb_recv hO hP) hP hO rfl hl.1 (Nat.le_of_ble_eq_true rfl) dX6_move_2 ⟨Nat.le_of_ble_eq_true rfl, Nat.le_of_ble_eq_true rfl⟩) ?_
    refine lv_iload_n hx hb dX6_move_5 rfl (lv_at hl 2 rfl) ?_
    by_cases c_2 : (f_X6_requireCell x) = 0
    · have hE : h_X6_move X c x = .inl "java/lang/IndexOutOfBoundsException" := (by rw [h_X6_move, if_neg c_1, if_pos c_2])
      exact cl_tx (xZ (As := [.int x]) (rest := []) ⟨hx, hb, hml, hown, hts⟩ (c_X6_requireCell_t l G (blk b (b + 170)) x hst c_2) (va_cwS 1 hts gX6_move_X6_requireCell rfl rfl rfl (by decide +kernel) ⟨Nat.le_of_ble_eq_true rfl, Nat.le_of_ble_eq_true rfl⟩) trivial hO (fun U hU hW => hTh.warm hW hU) rfl hl.1 (Nat.le_of_ble_eq_true rfl) dX6_move_6 ⟨Nat.le_of_ble_eq_true rfl, Nat.le_of_ble_eq_true rfl⟩) (fun q h => h) hno hlocks (Nat.le_of_ble_eq_true rfl) (Nat.le_of_ble_eq_true rfl) (fun t h => ⟨hE, h⟩)
    · refine cl_pv (rS (As := [.int x]) (rest := []) ⟨hx, hb, hml, hown, hts⟩ (c_X6_requireCell_n l G x c_2) (va_cwS 1 hts gX6_move_X6_requireCell rfl rfl rfl (by decide +kernel) ⟨Nat.le_of_ble_eq_true rfl, Nat.le_of_ble_eq_true rfl⟩) trivial hO rfl hl.1 (Nat.le_of_ble_eq_true rfl) dX6_move_6 ⟨Nat.le_of_ble_eq_true rfl, Nat.le_of_ble_eq_true rfl⟩) ?_
      refine lv_aload_n hx hb dX6_move_9 rfl (lv_at hl 0 rfl) ?_
      refine va_get (D := G.1) (ci := 4) (v := .ref (b + 3)) (C := RX6) (T := TX6) (N := 5) hx hb hts hin6 hown hO.1 hP.1 0 rfl rfl 1 (by decide) hf_19 (fun _ h9 => h9) rfl dX6_move_10 ?_
      refine lv_iload_n hx hb dX6_move_13 rfl (lv_at hl 1 rfl) ?_
      refine lv_iload_n hx hb dX6_move_14 rfl (lv_at hl 2 rfl) ?_
      refine cl_pi (rVN (As := [.int c, .int x]) (rest := []) ⟨hx, hb, hml, hown, hts⟩ (c_X4_canShift l G (b + 3) (xN X) c x) ⟨va_cnB 2 hts gX6_move_X4_canShift_n210 rfl rfl rfl (hO.2 _ (List.mem_of_getElem? (i := 59) rfl)) (hts (.initialized RX4) (by decide +kernel)) (by decide +kernel) ⟨Nat.le_of_ble_eq_true rfl, Nat.le_of_ble_eq_true rfl⟩, hts (.instanceMethod yX4_canShift) (by decide +kernel), hts (.selects RX4 yX4_canShift yX4_canShift) (by decide +kernel)⟩ (st_recv hO hP.2.2.1) hP.2.2.1 hO rfl hl.1 (Nat.le_of_ble_eq_true rfl) dX6_move_15 ⟨Nat.le_of_ble_eq_true rfl, Nat.le_of_ble_eq_true rfl⟩) ?_
      refine lv_if_ne (tgt := 31) hx hb dX6_move_18 (by decide) (fun c_3 => ?_) (fun c_3 => ?_)
      · refine lv_aload_n hx hb dX6_move_31 rfl (lv_at hl 0 rfl) ?_
        refine va_get (D := G.1) (ci := 4) (v := .ref (b + 21)) (C := RX6) (T := TX6) (N := 5) hx hb hts hin6 hown hO.1 hP.1 0 rfl rfl 3 (by decide) hf_29 (fun _ h9 => h9) rfl dX6_move_32 ?_
        refine lv_aload_n hx hb dX6_move_35 rfl (lv_at hl 0 rfl) ?_
        refine va_get (D := G.1) (ci := 4) (v := .ref (b + 3)) (C := RX6) (T := TX6) (N := 5) hx hb hts hin6 hown hO.1 hP.1 0 rfl rfl 1 (by decide) hf_19 (fun _ h9 => h9) rfl dX6_move_36 ?_
        refine cl_mv (rVN (As := [.ref (b + 3)]) (rest := []) ⟨hx, hb, hml, hown, hts⟩ (c_X0_remember l G (b + 21) (b + 3) (xH X, xN X) (by omega) hO14 hK14) ⟨va_cnB 1 hts gX6_move_X0_remember_n179 rfl rfl rfl (hO.2 _ (List.mem_of_getElem? (i := 53) rfl)) (hts (.initialized RX0) (by decide +kernel)) (by decide +kernel) ⟨Nat.le_of_ble_eq_true rfl, Nat.le_of_ble_eq_true rfl⟩, hts (.instanceMethod yX0_remember) (by decide +kernel), hts (.selects RX0 yX0_remember yX0_remember) (by decide +kernel)⟩ (hs_recv0 hO hP.2.2.2.2.1) (P_app.mpr ⟨hP.2.2.2.2.1, hP.2.2.1⟩) hO rfl hl.1 (Nat.le_of_ble_eq_true rfl) dX6_move_39 ⟨Nat.le_of_ble_eq_true rfl, Nat.le_of_ble_eq_true rfl⟩) hS (fun q h => hA q (by simp only [blk, blk2, blkh] at *; omega)) (fun H locs hP1 hz hk hS => ?_)
        have hP : Cb G b (yH (yN X (hT (h_X0_remember (xH X, xN X)))) (hH (h_X0_remember (xH X, xN X)))) H := cb_hist2 hP hP1 hk
        refine lv_aload_n hx hb dX6_move_42 rfl (lv_at hl 0 rfl) ?_
        refine va_get (D := G.1) (ci := 4) (v := .ref (b + 3)) (C := RX6) (T := TX6) (N := 5) hx hb hts hin6 hown hO.1 hP.1 0 rfl rfl 1 (by decide) hf_19 (fun _ h9 => h9) rfl dX6_move_43 ?_
        refine lv_iload_n hx hb dX6_move_46 rfl (lv_at hl 1 rfl) ?_
        refine lv_iload_n hx hb dX6_move_47 rfl (lv_at hl 2 rfl) ?_
        refine cl_mi (rVN (As := [.int c, .int x]) (rest := []) ⟨hx, hb, hml, hown, hts⟩ (c_X4_shift l G (b + 3) (xN (yH (yN X (hT (h_X0_remember (xH X, xN X)))) (hH (h_X0_remember (xH X, xN X))))) c x) ⟨va_cnB 2 hts gX6_move_X4_shift_n216 rfl rfl rfl (hO.2 _ (List.mem_of_getElem? (i := 60) rfl)) (hts (.initialized RX4) (by decide +kernel)) (by decide +kernel) ⟨Nat.le_of_ble_eq_true rfl, Nat.le_of_ble_eq_true rfl⟩, hts (.instanceMethod yX4_shift) (by decide +kernel), hts (.selects RX4 yX4_shift yX4_shift) (by decide +kernel)⟩ (st_recv hO hP.2.2.1) hP.2.2.1 hO rfl hl.1 (Nat.le_of_ble_eq_true rfl) dX6_move_48 ⟨Nat.le_of_ble_eq_true rfl, Nat.le_of_ble_eq_true rfl⟩) hS (fun q h => hA q (by simp only [blk, blk2, blkh] at *; omega)) (fun H locs hP1 hz hk hS => ?_)
        have hP : Cb G b (yN (yH (yN X (hT (h_X0_remember (xH X, xN X)))) (hH (h_X0_remember (xH X, xN X)))) ((h_X4_shift (xN (yH (yN X (hT (h_X0_remember (xH X, xN X)))) (hH (h_X0_remember (xH X, xN X))))) c x).2)) H := cb_now hP hP1 hk
        have hE : h_X6_move X c x = .inr ((h_X4_shift (xN (yH (yN X (hT (h_X0_remember (xH X, xN X)))) (hH (h_X0_remember (xH X, xN X))))) c x).1, (yN (yH (yN X (hT (h_X0_remember (xH X, xN X)))) (hH (h_X0_remember (xH X, xN X)))) ((h_X4_shift (xN (yH (yN X (hT (h_X0_remember (xH X, xN X)))) (hH (h_X0_remember (xH X, xN X))))) c x).2))) := (by rw [h_X6_move, if_neg c_1, if_neg c_2, if_neg c_3])
        exact W.widen (k := 1) (n := 6) (Nat.le_of_ble_eq_true rfl) (Nat.le_of_ble_eq_true rfl) (vx_ret (W.iret hx hb hr (fun t ht hW => ⟨_, _, hE, rfl, by rw [ht]; exact hP, hS.F ht⟩) hS.2.2 dX6_move_51))
      · have hE : h_X6_move X c x = .inl "java/lang/IllegalStateException" := (by rw [h_X6_move, if_neg c_1, if_neg c_2, if_pos c_3])
        obtain ⟨sa, hsa⟩ := hTh.2.2.2 10 _ rfl
        exact vx_throwS (names := ["java/lang/RuntimeException", "java/lang/Exception"]) (sa := sa) hx hb hst hown (by decide +kernel) (by decide +kernel) (hts (.classLink RX6 51 "java/lang/IllegalStateException") (by decide +kernel)) (hts (.initialized "java/lang/IllegalStateException") (by decide +kernel)) hsa (vx_hat (fun w h => hts w (List.mem_cons_of_mem _ (List.mem_append_left _ (List.mem_append_right _ h)))) thr_sub55 hTh.w) thr_good55 hTh.2.1 hTh.2.2.1 hS (by rw [hml]; exact hl.1) dX6_move_21 dX6_move_24 dX6_move_25 dX6_move_27 dX6_move_30 (fun x hx => (hno x hx).elim) (Nat.le_of_ble_eq_true rfl) (Nat.le_of_ble_eq_true rfl) (Nat.le_of_ble_eq_true rfl) (Nat.le_of_ble_eq_true rfl) hlocks (fun t _ h1 h2 => ⟨hE, h1, fun q hq _ => h2 q hq⟩) hS.2.2 (Nat.le_of_ble_eq_true rfl) (Nat.le_of_ble_eq_true rfl)

def h_X6_minutes (X : Cx) (mi : Int32) : String ⊕ (Int32 × Cx) :=
  if (f_X6_isMinutes mi) = 0 then .inl "java/lang/IllegalArgumentException" else
  .inr ((h_X4_passMinutes (xN (yH (yN X (hT (h_X0_remember (xH X, xN X)))) (hH (h_X0_remember (xH X, xN X))))) mi).1, (yN (yH (yN X (hT (h_X0_remember (xH X, xN X)))) (hH (h_X0_remember (xH X, xN X)))) ((h_X4_passMinutes (xN (yH (yN X (hT (h_X0_remember (xH X, xN X)))) (hH (h_X0_remember (xH X, xN X))))) mi).2)))
set_option maxHeartbeats 4000000 in
set_option maxRecDepth 100000 in
theorem c_X6_minutes (l : Launch) (G : GG) (b : Nat) (X : Cx) (mi : Int32) (hst : l.stackTraces = false) (hO14 : qO (xH X) < 14) (hK14 : qK (xH X) ≤ 14) : vx_Met l yX6_minutes wsX6_minutes ({ frames := 8, cells := 1, slots := 6, locals := 120 }) (PcT G (blk b (b + 170)) [.ref b, .int mi] (Cb G b X)) (QX (h_X6_minutes X mi) (Cb G b) (blk b (b + 170))) (XX (h_X6_minutes X mi)) 1 6 (blk b (b + 170)) := by
  refine metX (cc := cX6_minutes) (maxL := 2) (ret := (some .int)) (by decide) rfl ?_
  intro p e s m below meth cd hx hb hr hml hown hts hlocks hno hP hO hTh
  have hin6 : ∀ w ∈ u_ws RX6 TX6 5, w ∈ wsX6_minutes := by decide +kernel
  have hf_19 := hts (.fieldLink RX6 19 "CurbCars" "now" "LCurbCars$Street;") (by decide +kernel)
  have hf_29 := hts (.fieldLink RX6 29 "CurbCars" "history" "LCurbCars$History;") (by decide +kernel)
  have hA : ∀ q, (blk b (b + 170)) q → (blk b (b + 170)) q := fun _ h => h
  have hS : va_S (blk b (b + 170)) s.heap s.heap [] := va_S.rf
  have hl := lv_entry ([.ref b, .int mi]) (n := 2) (Nat.le_of_ble_eq_true rfl)
  rw [lg_entry_eq]
  generalize (lg_sl ([.ref b, .int mi]) ++ List.replicate (2 - (lg_sl ([.ref b, .int mi])).length) Slot.unset).toArray = ls at hl ⊢
  have hl : lv_has ls 2 [(0, .ref b), (1, .int mi)] := hl
  refine lv_iload_n hx hb dX6_minutes_0 rfl (lv_at hl 1 rfl) ?_
  refine cl_pi (rS (As := [.int mi]) (rest := []) ⟨hx, hb, hml, hown, hts⟩ (c_X6_isMinutes l G mi) (va_cwS 1 hts gX6_minutes_X6_isMinutes rfl rfl rfl (by decide +kernel) ⟨Nat.le_of_ble_eq_true rfl, Nat.le_of_ble_eq_true rfl⟩) trivial hO rfl hl.1 (Nat.le_of_ble_eq_true rfl) dX6_minutes_1 ⟨Nat.le_of_ble_eq_true rfl, Nat.le_of_ble_eq_true rfl⟩) ?_
  refine lv_if_ne (tgt := 17) hx hb dX6_minutes_4 (by decide) (fun c_1 => ?_) (fun c_1 => ?_)
  · refine lv_aload_n hx hb dX6_minutes_17 rfl (lv_at hl 0 rfl) ?_
    refine va_get (D := G.1) (ci := 4) (v := .ref (b + 21)) (C := RX6) (T := TX6) (N := 5) hx hb hts hin6 hown hO.1 hP.1 0 rfl rfl 3 (by decide) hf_29 (fun _ h9 => h9) rfl dX6_minutes_18 ?_
    refine lv_aload_n hx hb dX6_minutes_21 rfl (lv_at hl 0 rfl) ?_
    refine va_get (D := G.1) (ci := 4) (v := .ref (b + 3)) (C := RX6) (T := TX6) (N := 5) hx hb hts hin6 hown hO.1 hP.1 0 rfl rfl 1 (by decide) hf_19 (fun _ h9 => h9) rfl dX6_minutes_22 ?_
    refine cl_mv (rVN (As := [.ref (b + 3)]) (rest := []) ⟨hx, hb, hml, hown, hts⟩ (c_X0_remember l G (b + 21) (b + 3) (xH X, xN X) (by omega) hO14 hK14) ⟨va_cnB 1 hts gX6_minutes_X0_remember_n179 rfl rfl rfl (hO.2 _ (List.mem_of_getElem? (i := 53) rfl)) (hts (.initialized RX0) (by decide +kernel)) (by decide +kernel) ⟨Nat.le_of_ble_eq_true rfl, Nat.le_of_ble_eq_true rfl⟩, hts (.instanceMethod yX0_remember) (by decide +kernel), hts (.selects RX0 yX0_remember yX0_remember) (by decide +kernel)⟩ (hs_recv0 hO hP.2.2.2.2.1) (P_app.mpr ⟨hP.2.2.2.2.1, hP.2.2.1⟩) hO rfl hl.1 (Nat.le_of_ble_eq_true rfl) dX6_minutes_25 ⟨Nat.le_of_ble_eq_true rfl, Nat.le_of_ble_eq_true rfl⟩) hS (fun q h => hA q (by simp only [blk, blk2, blkh] at *; omega)) (fun H locs hP1 hz hk hS => ?_)
    have hP : Cb G b (yH (yN X (hT (h_X0_remember (xH X, xN X)))) (hH (h_X0_remember (xH X, xN X)))) H := cb_hist2 hP hP1 hk
    refine lv_aload_n hx hb dX6_minutes_28 rfl (lv_at hl 0 rfl) ?_
    refine va_get (D := G.1) (ci := 4) (v := .ref (b + 3)) (C := RX6) (T := TX6) (N := 5) hx hb hts hin6 hown hO.1 hP.1 0 rfl rfl 1 (by decide) hf_19 (fun _ h9 => h9) rfl dX6_minutes_29 ?_
    refine lv_iload_n hx hb dX6_minutes_32 rfl (lv_at hl 1 rfl) ?_
    refine cl_mi (rVN (As := [.int mi]) (rest := []) ⟨hx, hb, hml, hown, hts⟩ (c_X4_passMinutes l G (b + 3) (xN (yH (yN X (hT (h_X0_remember (xH X, xN X)))) (hH (h_X0_remember (xH X, xN X))))) mi) ⟨va_cnB 1 hts gX6_minutes_X4_passMinutes_n224 rfl rfl rfl (hO.2 _ (List.mem_of_getElem? (i := 61) rfl)) (hts (.initialized RX4) (by decide +kernel)) (by decide +kernel) ⟨Nat.le_of_ble_eq_true rfl, Nat.le_of_ble_eq_true rfl⟩, hts (.instanceMethod yX4_passMinutes) (by decide +kernel), hts (.selects RX4 yX4_passMinutes yX4_passMinutes) (by decide +kernel)⟩ (st_recv hO hP.2.2.1) hP.2.2.1 hO rfl hl.1 (Nat.le_of_ble_eq_true rfl) dX6_minutes_33 ⟨Nat.le_of_ble_eq_true rfl, Nat.le_of_ble_eq_true rfl⟩) hS (fun q h => hA q (by simp only [blk, blk2, blkh] at *; omega)) (fun H locs hP1 hz hk hS => ?_)
    have hP : Cb G b (yN (yH (yN X (hT (h_X0_remember (xH X, xN X)))) (hH (h_X0_remember (xH X, xN X)))) ((h_X4_passMinutes (xN (yH (yN X (hT (h_X0_remember (xH X, xN X)))) (hH (h_X0_remember (xH X, xN X))))) mi).2)) H := cb_now hP hP1 hk
    have hE : h_X6_minutes X mi = .inr ((h_X4_passMinutes (xN (yH (yN X (hT (h_X0_remember (xH X, xN X)))) (hH (h_X0_remember (xH X, xN X))))) mi).1, (yN (yH (yN X (hT (h_X0_remember (xH X, xN X)))) (hH (h_X0_remember (xH X, xN X)))) ((h_X4_passMinutes (xN (yH (yN X (hT (h_X0_remember (xH X, xN X)))) (hH (h_X0_remember (xH X, xN X))))) mi).2))) := (by rw [h_X6_minutes, if_neg c_1])
    exact W.widen (k := 1) (n := 6) (Nat.le_of_ble_eq_true rfl) (Nat.le_of_ble_eq_true rfl) (vx_ret (W.iret hx hb hr (fun t ht hW => ⟨_, _, hE, rfl, by rw [ht]; exact hP, hS.F ht⟩) hS.2.2 dX6_minutes_36))
  · have hE : h_X6_minutes X mi = .inl "java/lang/IllegalArgumentException" := (by rw [h_X6_minutes, if_pos c_1])
    obtain ⟨sa, hsa⟩ := hTh.2.2.2 9 _ rfl
    exact vx_throwS (names := ["java/lang/RuntimeException", "java/lang/Exception"]) (sa := sa) hx hb hst hown (by decide +kernel) (by decide +kernel) (hts (.classLink RX6 40 "java/lang/IllegalArgumentException") (by decide +kernel)) (hts (.initialized "java/lang/IllegalArgumentException") (by decide +kernel)) hsa (vx_hat (fun w h => hts w (List.mem_cons_of_mem _ (List.mem_append_right _ h))) thr_sub44 hTh.w) thr_good44 hTh.2.1 hTh.2.2.1 hS (by rw [hml]; exact hl.1) dX6_minutes_7 dX6_minutes_10 dX6_minutes_11 dX6_minutes_13 dX6_minutes_16 (fun x hx => (hno x hx).elim) (Nat.le_of_ble_eq_true rfl) (Nat.le_of_ble_eq_true rfl) (Nat.le_of_ble_eq_true rfl) (Nat.le_of_ble_eq_true rfl) hlocks (fun t _ h1 h2 => ⟨hE, h1, fun q hq _ => h2 q hq⟩) hS.2.2 (Nat.le_of_ble_eq_true rfl) (Nat.le_of_ble_eq_true rfl)

def h_X6_set (X : Cx) (w : Int32) (v : Int32) : String ⊕ (Int32 × Cx) :=
  if (f_X6_isSettingValue w v) = 0 then .inl "java/lang/IllegalArgumentException" else
  .inr ((h_X4_changeSetting (xN (yH (yN X (hT (h_X0_remember (xH X, xN X)))) (hH (h_X0_remember (xH X, xN X))))) w v).1, (yN (yH (yN X (hT (h_X0_remember (xH X, xN X)))) (hH (h_X0_remember (xH X, xN X)))) ((h_X4_changeSetting (xN (yH (yN X (hT (h_X0_remember (xH X, xN X)))) (hH (h_X0_remember (xH X, xN X))))) w v).2)))
set_option maxHeartbeats 4000000 in
set_option maxRecDepth 100000 in
theorem c_X6_set (l : Launch) (G : GG) (b : Nat) (X : Cx) (w : Int32) (v : Int32) (hst : l.stackTraces = false) (hO14 : qO (xH X) < 14) (hK14 : qK (xH X) ≤ 14) : vx_Met l yX6_set wsX6_set ({ frames := 8, cells := 1, slots := 6, locals := 120 }) (PcT G (blk b (b + 170)) [.ref b, .int w, .int v] (Cb G b X)) (QX (h_X6_set X w v) (Cb G b) (blk b (b + 170))) (XX (h_X6_set X w v)) 1 6 (blk b (b + 170)) := by
  refine metX (cc := cX6_set) (maxL := 3) (ret := (some .int)) (by decide) rfl ?_
  intro p e s m below meth cd hx hb hr hml hown hts hlocks hno hP hO hTh
  have hin6 : ∀ w ∈ u_ws RX6 TX6 5, w ∈ wsX6_set := by decide +kernel
  have hf_19 := hts (.fieldLink RX6 19 "CurbCars" "now" "LCurbCars$Street;") (by decide +kernel)
  have hf_29 := hts (.fieldLink RX6 29 "CurbCars" "history" "LCurbCars$History;") (by decide +kernel)
  have hA : ∀ q, (blk b (b + 170)) q → (blk b (b + 170)) q := fun _ h => h
  have hS : va_S (blk b (b + 170)) s.heap s.heap [] := va_S.rf
  have hl := lv_entry ([.ref b, .int w, .int v]) (n := 3) (Nat.le_of_ble_eq_true rfl)
  rw [lg_entry_eq]
  generalize (lg_sl ([.ref b, .int w, .int v]) ++ List.replicate (3 - (lg_sl ([.ref b, .int w, .int v])).length) Slot.unset).toArray = ls at hl ⊢
  have hl : lv_has ls 3 [(0, .ref b), (1, .int w), (2, .int v)] := hl
  refine lv_iload_n hx hb dX6_set_0 rfl (lv_at hl 1 rfl) ?_
  refine lv_iload_n hx hb dX6_set_1 rfl (lv_at hl 2 rfl) ?_
  refine cl_pi (rS (As := [.int w, .int v]) (rest := []) ⟨hx, hb, hml, hown, hts⟩ (c_X6_isSettingValue l G w v) (va_cwS 2 hts gX6_set_X6_isSettingValue rfl rfl rfl (by decide +kernel) ⟨Nat.le_of_ble_eq_true rfl, Nat.le_of_ble_eq_true rfl⟩) trivial hO rfl hl.1 (Nat.le_of_ble_eq_true rfl) dX6_set_2 ⟨Nat.le_of_ble_eq_true rfl, Nat.le_of_ble_eq_true rfl⟩) ?_
  refine lv_if_ne (tgt := 18) hx hb dX6_set_5 (by decide) (fun c_1 => ?_) (fun c_1 => ?_)
  · refine lv_aload_n hx hb dX6_set_18 rfl (lv_at hl 0 rfl) ?_
    refine va_get (D := G.1) (ci := 4) (v := .ref (b + 21)) (C := RX6) (T := TX6) (N := 5) hx hb hts hin6 hown hO.1 hP.1 0 rfl rfl 3 (by decide) hf_29 (fun _ h9 => h9) rfl dX6_set_19 ?_
    refine lv_aload_n hx hb dX6_set_22 rfl (lv_at hl 0 rfl) ?_
    refine va_get (D := G.1) (ci := 4) (v := .ref (b + 3)) (C := RX6) (T := TX6) (N := 5) hx hb hts hin6 hown hO.1 hP.1 0 rfl rfl 1 (by decide) hf_19 (fun _ h9 => h9) rfl dX6_set_23 ?_
    refine cl_mv (rVN (As := [.ref (b + 3)]) (rest := []) ⟨hx, hb, hml, hown, hts⟩ (c_X0_remember l G (b + 21) (b + 3) (xH X, xN X) (by omega) hO14 hK14) ⟨va_cnB 1 hts gX6_set_X0_remember_n179 rfl rfl rfl (hO.2 _ (List.mem_of_getElem? (i := 53) rfl)) (hts (.initialized RX0) (by decide +kernel)) (by decide +kernel) ⟨Nat.le_of_ble_eq_true rfl, Nat.le_of_ble_eq_true rfl⟩, hts (.instanceMethod yX0_remember) (by decide +kernel), hts (.selects RX0 yX0_remember yX0_remember) (by decide +kernel)⟩ (hs_recv0 hO hP.2.2.2.2.1) (P_app.mpr ⟨hP.2.2.2.2.1, hP.2.2.1⟩) hO rfl hl.1 (Nat.le_of_ble_eq_true rfl) dX6_set_26 ⟨Nat.le_of_ble_eq_true rfl, Nat.le_of_ble_eq_true rfl⟩) hS (fun q h => hA q (by simp only [blk, blk2, blkh] at *; omega)) (fun H locs hP1 hz hk hS => ?_)
    have hP : Cb G b (yH (yN X (hT (h_X0_remember (xH X, xN X)))) (hH (h_X0_remember (xH X, xN X)))) H := cb_hist2 hP hP1 hk
    refine lv_aload_n hx hb dX6_set_29 rfl (lv_at hl 0 rfl) ?_
    refine va_get (D := G.1) (ci := 4) (v := .ref (b + 3)) (C := RX6) (T := TX6) (N := 5) hx hb hts hin6 hown hO.1 hP.1 0 rfl rfl 1 (by decide) hf_19 (fun _ h9 => h9) rfl dX6_set_30 ?_
    refine lv_iload_n hx hb dX6_set_33 rfl (lv_at hl 1 rfl) ?_
    refine lv_iload_n hx hb dX6_set_34 rfl (lv_at hl 2 rfl) ?_
    refine cl_mi (rVN (As := [.int w, .int v]) (rest := []) ⟨hx, hb, hml, hown, hts⟩ (c_X4_changeSetting l G (b + 3) (xN (yH (yN X (hT (h_X0_remember (xH X, xN X)))) (hH (h_X0_remember (xH X, xN X))))) w v) ⟨va_cnB 2 hts gX6_set_X4_changeSetting_n232 rfl rfl rfl (hO.2 _ (List.mem_of_getElem? (i := 62) rfl)) (hts (.initialized RX4) (by decide +kernel)) (by decide +kernel) ⟨Nat.le_of_ble_eq_true rfl, Nat.le_of_ble_eq_true rfl⟩, hts (.instanceMethod yX4_changeSetting) (by decide +kernel), hts (.selects RX4 yX4_changeSetting yX4_changeSetting) (by decide +kernel)⟩ (st_recv hO hP.2.2.1) hP.2.2.1 hO rfl hl.1 (Nat.le_of_ble_eq_true rfl) dX6_set_35 ⟨Nat.le_of_ble_eq_true rfl, Nat.le_of_ble_eq_true rfl⟩) hS (fun q h => hA q (by simp only [blk, blk2, blkh] at *; omega)) (fun H locs hP1 hz hk hS => ?_)
    have hP : Cb G b (yN (yH (yN X (hT (h_X0_remember (xH X, xN X)))) (hH (h_X0_remember (xH X, xN X)))) ((h_X4_changeSetting (xN (yH (yN X (hT (h_X0_remember (xH X, xN X)))) (hH (h_X0_remember (xH X, xN X))))) w v).2)) H := cb_now hP hP1 hk
    have hE : h_X6_set X w v = .inr ((h_X4_changeSetting (xN (yH (yN X (hT (h_X0_remember (xH X, xN X)))) (hH (h_X0_remember (xH X, xN X))))) w v).1, (yN (yH (yN X (hT (h_X0_remember (xH X, xN X)))) (hH (h_X0_remember (xH X, xN X)))) ((h_X4_changeSetting (xN (yH (yN X (hT (h_X0_remember (xH X, xN X)))) (hH (h_X0_remember (xH X, xN X))))) w v).2))) := (by rw [h_X6_set, if_neg c_1])
    exact W.widen (k := 1) (n := 6) (Nat.le_of_ble_eq_true rfl) (Nat.le_of_ble_eq_true rfl) (vx_ret (W.iret hx hb hr (fun t ht hW => ⟨_, _, hE, rfl, by rw [ht]; exact hP, hS.F ht⟩) hS.2.2 dX6_set_38))
  · have hE : h_X6_set X w v = .inl "java/lang/IllegalArgumentException" := (by rw [h_X6_set, if_pos c_1])
    obtain ⟨sa, hsa⟩ := hTh.2.2.2 20 _ rfl
    exact vx_throwS (names := ["java/lang/RuntimeException", "java/lang/Exception"]) (sa := sa) hx hb hst hown (by decide +kernel) (by decide +kernel) (hts (.classLink RX6 40 "java/lang/IllegalArgumentException") (by decide +kernel)) (hts (.initialized "java/lang/IllegalArgumentException") (by decide +kernel)) hsa (vx_hat (fun w h => hts w (List.mem_cons_of_mem _ (List.mem_append_right _ h))) thr_sub44 hTh.w) thr_good44 hTh.2.1 hTh.2.2.1 hS (by rw [hml]; exact hl.1) dX6_set_8 dX6_set_11 dX6_set_12 dX6_set_14 dX6_set_17 (fun x hx => (hno x hx).elim) (Nat.le_of_ble_eq_true rfl) (Nat.le_of_ble_eq_true rfl) (Nat.le_of_ble_eq_true rfl) (Nat.le_of_ble_eq_true rfl) hlocks (fun t _ h1 h2 => ⟨hE, h1, fun q hq _ => h2 q hq⟩) hS.2.2 (Nat.le_of_ble_eq_true rfl) (Nat.le_of_ble_eq_true rfl)

def h_X6_undo (X : Cx) : String ⊕ (Int32 × Cx) :=
  if (f_X0_isEmpty (xH X)) = 0 then .inr ((h_X0_takeBack (xH X, xN X)).1, (yH (yN X (hT ((h_X0_takeBack (xH X, xN X)).2))) (hH ((h_X0_takeBack (xH X, xN X)).2)))) else
  .inl "java/lang/IllegalStateException"
set_option maxHeartbeats 4000000 in
set_option maxRecDepth 100000 in
theorem c_X6_undo (l : Launch) (G : GG) (b : Nat) (X : Cx) (hst : l.stackTraces = false) (hO14 : qO (xH X) < 14) (hK14 : qK (xH X) ≤ 14) : vx_Met l yX6_undo wsX6_undo ({ frames := 8, cells := 1, slots := 6, locals := 120 }) (PcT G (blk b (b + 170)) [.ref b] (Cb G b X)) (QX (h_X6_undo X) (Cb G b) (blk b (b + 170))) (XX (h_X6_undo X)) 1 6 (blk b (b + 170)) := by
  refine metX (cc := cX6_undo) (maxL := 1) (ret := (some .int)) (by decide) rfl ?_
  intro p e s m below meth cd hx hb hr hml hown hts hlocks hno hP hO hTh
  have hin6 : ∀ w ∈ u_ws RX6 TX6 5, w ∈ wsX6_undo := by decide +kernel
  have hf_19 := hts (.fieldLink RX6 19 "CurbCars" "now" "LCurbCars$Street;") (by decide +kernel)
  have hf_29 := hts (.fieldLink RX6 29 "CurbCars" "history" "LCurbCars$History;") (by decide +kernel)
  have hA : ∀ q, (blk b (b + 170)) q → (blk b (b + 170)) q := fun _ h => h
  have hS : va_S (blk b (b + 170)) s.heap s.heap [] := va_S.rf
  have hl := lv_entry ([.ref b]) (n := 1) (Nat.le_of_ble_eq_true rfl)
  rw [lg_entry_eq]
  generalize (lg_sl ([.ref b]) ++ List.replicate (1 - (lg_sl ([.ref b])).length) Slot.unset).toArray = ls at hl ⊢
  have hl : lv_has ls 1 [(0, .ref b)] := hl
  refine lv_aload_n hx hb dX6_undo_0 rfl (lv_at hl 0 rfl) ?_
  refine va_get (D := G.1) (ci := 4) (v := .ref (b + 21)) (C := RX6) (T := TX6) (N := 5) hx hb hts hin6 hown hO.1 hP.1 0 rfl rfl 3 (by decide) hf_29 (fun _ h9 => h9) rfl dX6_undo_1 ?_
  refine cl_pi (rVN (As := []) (rest := []) ⟨hx, hb, hml, hown, hts⟩ (c_X0_isEmpty l G (b + 21) (xH X)) ⟨va_cnB 0 hts gX6_undo_X0_isEmpty_n235 rfl rfl rfl (hO.2 _ (List.mem_of_getElem? (i := 63) rfl)) (hts (.initialized RX0) (by decide +kernel)) (by decide +kernel) ⟨Nat.le_of_ble_eq_true rfl, Nat.le_of_ble_eq_true rfl⟩, hts (.instanceMethod yX0_isEmpty) (by decide +kernel), hts (.selects RX0 yX0_isEmpty yX0_isEmpty) (by decide +kernel)⟩ (hs_recv0 hO hP.2.2.2.2.1) hP.2.2.2.2.1 hO rfl hl.1 (Nat.le_of_ble_eq_true rfl) dX6_undo_4 ⟨Nat.le_of_ble_eq_true rfl, Nat.le_of_ble_eq_true rfl⟩) ?_
  refine lv_if_eq (tgt := 20) hx hb dX6_undo_7 (by decide) (fun c_1 => ?_) (fun c_1 => ?_)
  · refine lv_aload_n hx hb dX6_undo_20 rfl (lv_at hl 0 rfl) ?_
    refine va_get (D := G.1) (ci := 4) (v := .ref (b + 21)) (C := RX6) (T := TX6) (N := 5) hx hb hts hin6 hown hO.1 hP.1 0 rfl rfl 3 (by decide) hf_29 (fun _ h9 => h9) rfl dX6_undo_21 ?_
    refine lv_aload_n hx hb dX6_undo_24 rfl (lv_at hl 0 rfl) ?_
    refine va_get (D := G.1) (ci := 4) (v := .ref (b + 3)) (C := RX6) (T := TX6) (N := 5) hx hb hts hin6 hown hO.1 hP.1 0 rfl rfl 1 (by decide) hf_19 (fun _ h9 => h9) rfl dX6_undo_25 ?_
    refine cl_mi (rVN (As := [.ref (b + 3)]) (rest := []) ⟨hx, hb, hml, hown, hts⟩ (c_X0_takeBack l G (b + 21) (b + 3) (xH X, xN X) (by omega) hO14 hK14) ⟨va_cnB 1 hts gX6_undo_X0_takeBack_n240 rfl rfl rfl (hO.2 _ (List.mem_of_getElem? (i := 64) rfl)) (hts (.initialized RX0) (by decide +kernel)) (by decide +kernel) ⟨Nat.le_of_ble_eq_true rfl, Nat.le_of_ble_eq_true rfl⟩, hts (.instanceMethod yX0_takeBack) (by decide +kernel), hts (.selects RX0 yX0_takeBack yX0_takeBack) (by decide +kernel)⟩ (hs_recv0 hO hP.2.2.2.2.1) (P_app.mpr ⟨hP.2.2.2.2.1, hP.2.2.1⟩) hO rfl hl.1 (Nat.le_of_ble_eq_true rfl) dX6_undo_28 ⟨Nat.le_of_ble_eq_true rfl, Nat.le_of_ble_eq_true rfl⟩) hS (fun q h => hA q (by simp only [blk, blk2, blkh] at *; omega)) (fun H locs hP1 hz hk hS => ?_)
    have hP : Cb G b (yH (yN X (hT ((h_X0_takeBack (xH X, xN X)).2))) (hH ((h_X0_takeBack (xH X, xN X)).2))) H := cb_hist2 hP hP1 hk
    have hE : h_X6_undo X = .inr ((h_X0_takeBack (xH X, xN X)).1, (yH (yN X (hT ((h_X0_takeBack (xH X, xN X)).2))) (hH ((h_X0_takeBack (xH X, xN X)).2)))) := (by rw [h_X6_undo, if_pos c_1])
    exact W.widen (k := 1) (n := 6) (Nat.le_of_ble_eq_true rfl) (Nat.le_of_ble_eq_true rfl) (vx_ret (W.iret hx hb hr (fun t ht hW => ⟨_, _, hE, rfl, by rw [ht]; exact hP, hS.F ht⟩) hS.2.2 dX6_undo_31))
  · have hE : h_X6_undo X = .inl "java/lang/IllegalStateException" := (by rw [h_X6_undo, if_neg c_1])
    obtain ⟨sa, hsa⟩ := hTh.2.2.2 23 _ rfl
    exact vx_throwS (names := ["java/lang/RuntimeException", "java/lang/Exception"]) (sa := sa) hx hb hst hown (by decide +kernel) (by decide +kernel) (hts (.classLink RX6 51 "java/lang/IllegalStateException") (by decide +kernel)) (hts (.initialized "java/lang/IllegalStateException") (by decide +kernel)) hsa (vx_hat (fun w h => hts w (List.mem_cons_of_mem _ (List.mem_append_right _ h))) thr_sub55 hTh.w) thr_good55 hTh.2.1 hTh.2.2.1 hS (by rw [hml]; exact hl.1) dX6_undo_10 dX6_undo_13 dX6_undo_14 dX6_undo_16 dX6_undo_19 (fun x hx => (hno x hx).elim) (Nat.le_of_ble_eq_true rfl) (Nat.le_of_ble_eq_true rfl) (Nat.le_of_ble_eq_true rfl) (Nat.le_of_ble_eq_true rfl) hlocks (fun t _ h1 h2 => ⟨hE, h1, fun q hq _ => h2 q hq⟩) hS.2.2 (Nat.le_of_ble_eq_true rfl) (Nat.le_of_ble_eq_true rfl)
