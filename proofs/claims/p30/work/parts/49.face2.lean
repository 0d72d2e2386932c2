def h_X6_append (X : Cx) (c : Int32) : String ⊕ (Int32 × Cx) :=
  if c < 0 then .inl "java/lang/IllegalArgumentException" else
  if c ≤ 255 then (if (f_X5_isFull (xT X)) = 0 then .inr ((h_X5_add (xT X) (jChar c)).1, (yT X ((h_X5_add (xT X) (jChar c)).2))) else
    .inl "java/lang/IllegalStateException") else
  .inl "java/lang/IllegalArgumentException"
set_option maxHeartbeats 4000000 in
set_option maxRecDepth 100000 in
theorem c_X6_append (l : Launch) (G : GG) (b : Nat) (X : Cx) (c : Int32) (hst : l.stackTraces = false) : vx_Met l yX6_append wsX6_append ({ frames := 8, cells := 1, slots := 6, locals := 120 }) (PcT G (blk b (b + 170)) [.ref b, .int c] (Cb G b X)) (QX (h_X6_append X c) (Cb G b) (blk b (b + 170))) (XX (h_X6_append X c)) 1 6 (blk b (b + 170)) := by
  refine metX (cc := cX6_append) (maxL := 2) (ret := (some .int)) (by decide) rfl ?_
  intro p e s m below meth cd hx hb hr hml hown hts hlocks hno hP hO hTh
  have hin6 : ∀ w ∈ u_ws RX6 TX6 5, w ∈ wsX6_append := by decide +kernel
  have hf_10 := hts (.fieldLink RX6 10 "CurbCars" "text" "LCurbCars$StreetText;") (by decide +kernel)
  have hA : ∀ q, (blk b (b + 170)) q → (blk b (b + 170)) q := fun _ h => h
  have hS : va_S (blk b (b + 170)) s.heap s.heap [] := va_S.rf
  have hl := lv_entry ([.ref b, .int c]) (n := 2) (Nat.le_of_ble_eq_true rfl)
  rw [lg_entry_eq]
  generalize (lg_sl ([.ref b, .int c]) ++ List.replicate (2 - (lg_sl ([.ref b, .int c])).length) Slot.unset).toArray = ls at hl ⊢
  have hl : lv_has ls 2 [(0, .ref b), (1, .int c)] := hl
  refine lv_iload_n hx hb dX6_append_0 rfl (lv_at hl 1 rfl) ?_
  refine lv_if_lt (tgt := 11) hx hb dX6_append_1 (by decide) (fun c_1 => ?_) (fun c_1 => ?_)
  · have hE : h_X6_append X c = .inl "java/lang/IllegalArgumentException" := (by rw [h_X6_append, if_pos c_1])
    obtain ⟨sa, hsa⟩ := hTh.2.2.2 1 _ rfl
    exact vx_throwS (names := ["java/lang/RuntimeException", "java/lang/Exception"]) (sa := sa) hx hb hst hown (by decide +kernel) (by decide +kernel) (hts (.classLink RX6 40 "java/lang/IllegalArgumentException") (by decide +kernel)) (hts (.initialized "java/lang/IllegalArgumentException") (by decide +kernel)) hsa (vx_hat (fun w h => hts w (List.mem_cons_of_mem _ (List.mem_append_left _ (List.mem_append_right _ h)))) thr_sub44 hTh.w) thr_good44 hTh.2.1 hTh.2.2.1 hS (by rw [hml]; exact hl.1) dX6_append_11 dX6_append_14 dX6_append_15 dX6_append_17 dX6_append_20 (fun x hx => (hno x hx).elim) (Nat.le_of_ble_eq_true rfl) (Nat.le_of_ble_eq_true rfl) (Nat.le_of_ble_eq_true rfl) (Nat.le_of_ble_eq_true rfl) hlocks (fun t _ h1 h2 => ⟨hE, h1, fun q hq _ => h2 q hq⟩) hS.2.2 (Nat.le_of_ble_eq_true rfl) (Nat.le_of_ble_eq_true rfl)
  · refine lv_iload_n hx hb dX6_append_4 rfl (lv_at hl 1 rfl) ?_
    refine lv_sipush (v := 255) hx hb dX6_append_5 (by decide) ?_
    refine lv_icmp_le (tgt := 21) hx hb dX6_append_8 (by decide) (fun c_2 => ?_) (fun c_2 => ?_)
    · refine lv_aload_n hx hb dX6_append_21 rfl (lv_at hl 0 rfl) ?_
      refine va_get (D := G.1) (ci := 4) (v := .ref (b + 1)) (C := RX6) (T := TX6) (N := 5) hx hb hts hin6 hown hO.1 hP.1 0 rfl rfl 0 (by decide) hf_10 (fun _ h9 => h9) rfl dX6_append_22 ?_
      refine cl_pi (rVN (As := []) (rest := []) ⟨hx, hb, hml, hown, hts⟩ (c_X5_isFull l G (b + 1) (xT X)) ⟨va_cnB 0 hts gX6_append_X5_isFull_n47 rfl rfl rfl (hO.2 _ (List.mem_of_getElem? (i := 19) rfl)) (hts (.initialized RX5) (by decide +kernel)) (by decide +kernel) ⟨Nat.le_of_ble_eq_true rfl, Nat.le_of_ble_eq_true rfl⟩, hts (.instanceMethod yX5_isFull) (by decide +kernel), hts (.selects RX5 yX5_isFull yX5_isFull) (by decide +kernel)⟩ (tx_recv' hO hP.2.1) hP.2.1 hO rfl hl.1 (Nat.le_of_ble_eq_true rfl) dX6_append_25 ⟨Nat.le_of_ble_eq_true rfl, Nat.le_of_ble_eq_true rfl⟩) ?_
      refine lv_if_eq (tgt := 41) hx hb dX6_append_28 (by decide) (fun c_3 => ?_) (fun c_3 => ?_)
      · refine lv_aload_n hx hb dX6_append_41 rfl (lv_at hl 0 rfl) ?_
        refine va_get (D := G.1) (ci := 4) (v := .ref (b + 1)) (C := RX6) (T := TX6) (N := 5) hx hb hts hin6 hown hO.1 hP.1 0 rfl rfl 0 (by decide) hf_10 (fun _ h9 => h9) rfl dX6_append_42 ?_
        refine lv_iload_n hx hb dX6_append_45 rfl (lv_at hl 1 rfl) ?_
        refine lv_i2c (v := jChar c) hx hb dX6_append_46 rfl ?_
        refine cl_mi (rVN (As := [.int (jChar c)]) (rest := []) ⟨hx, hb, hml, hown, hts⟩ (c_X5_add l G (b + 1) (xT X) (jChar c)) ⟨va_cnB 1 hts gX6_append_X5_add_n56 rfl rfl rfl (hO.2 _ (List.mem_of_getElem? (i := 20) rfl)) (hts (.initialized RX5) (by decide +kernel)) (by decide +kernel) ⟨Nat.le_of_ble_eq_true rfl, Nat.le_of_ble_eq_true rfl⟩, hts (.instanceMethod yX5_add) (by decide +kernel), hts (.selects RX5 yX5_add yX5_add) (by decide +kernel)⟩ (tx_recv' hO hP.2.1) hP.2.1 hO rfl hl.1 (Nat.le_of_ble_eq_true rfl) dX6_append_47 ⟨Nat.le_of_ble_eq_true rfl, Nat.le_of_ble_eq_true rfl⟩) hS (fun q h => hA q (by simp only [blk, blk2, blkh] at *; omega)) (fun H locs hP1 hz hk hS => ?_)
        have hP : Cb G b (yT X ((h_X5_add (xT X) (jChar c)).2)) H := cb_text hP hP1 hk
        have hE : h_X6_append X c = .inr ((h_X5_add (xT X) (jChar c)).1, (yT X ((h_X5_add (xT X) (jChar c)).2))) := (by rw [h_X6_append, if_neg c_1, if_pos c_2, if_pos c_3])
        exact W.widen (k := 1) (n := 6) (Nat.le_of_ble_eq_true rfl) (Nat.le_of_ble_eq_true rfl) (vx_ret (W.iret hx hb hr (fun t ht hW => ⟨_, _, hE, rfl, by rw [ht]; exact hP, hS.F ht⟩) hS.2.2 dX6_append_50))
      · have hE : h_X6_append X c = .inl "java/lang/IllegalStateException" := (by rw [h_X6_append, if_neg c_1, if_pos c_2, if_neg c_3])
        obtain ⟨sa, hsa⟩ := hTh.2.2.2 2 _ rfl
        exact vx_throwS (names := ["java/lang/RuntimeException", "java/lang/Exception"]) (sa := sa) hx hb hst hown (by decide +kernel) (by decide +kernel) (hts (.classLink RX6 51 "java/lang/IllegalStateException") (by decide +kernel)) (hts (.initialized "java/lang/IllegalStateException") (by decide +kernel)) hsa (vx_hat (fun w h => hts w (List.mem_cons_of_mem _ (List.mem_append_right _ h))) thr_sub55 hTh.w) thr_good55 hTh.2.1 hTh.2.2.1 hS (by rw [hml]; exact hl.1) dX6_append_31 dX6_append_34 dX6_append_35 dX6_append_37 dX6_append_40 (fun x hx => (hno x hx).elim) (Nat.le_of_ble_eq_true rfl) (Nat.le_of_ble_eq_true rfl) (Nat.le_of_ble_eq_true rfl) (Nat.le_of_ble_eq_true rfl) hlocks (fun t _ h1 h2 => ⟨hE, h1, fun q hq _ => h2 q hq⟩) hS.2.2 (Nat.le_of_ble_eq_true rfl) (Nat.le_of_ble_eq_true rfl)
    · have hE : h_X6_append X c = .inl "java/lang/IllegalArgumentException" := (by rw [h_X6_append, if_neg c_1, if_neg c_2])
      obtain ⟨sa, hsa⟩ := hTh.2.2.2 1 _ rfl
      exact vx_throwS (names := ["java/lang/RuntimeException", "java/lang/Exception"]) (sa := sa) hx hb hst hown (by decide +kernel) (by decide +kernel) (hts (.classLink RX6 40 "java/lang/IllegalArgumentException") (by decide +kernel)) (hts (.initialized "java/lang/IllegalArgumentException") (by decide +kernel)) hsa (vx_hat (fun w h => hts w (List.mem_cons_of_mem _ (List.mem_append_left _ (List.mem_append_right _ h)))) thr_sub44 hTh.w) thr_good44 hTh.2.1 hTh.2.2.1 hS (by rw [hml]; exact hl.1) dX6_append_11 dX6_append_14 dX6_append_15 dX6_append_17 dX6_append_20 (fun x hx => (hno x hx).elim) (Nat.le_of_ble_eq_true rfl) (Nat.le_of_ble_eq_true rfl) (Nat.le_of_ble_eq_true rfl) (Nat.le_of_ble_eq_true rfl) hlocks (fun t _ h1 h2 => ⟨hE, h1, fun q hq _ => h2 q hq⟩) hS.2.2 (Nat.le_of_ble_eq_true rfl) (Nat.le_of_ble_eq_true rfl)



def h_X6_about (X : Cx) (w : Int32) : String ⊕ (Int32 × Cx) :=
  if w = 0 then .inr (sN (xN X), X) else
  if w = 1 then .inr (f_X4_carsInState (xN X) 0, X) else
  if w = 2 then .inr (f_X4_carsInState (xN X) 1, X) else
  if w = 3 then .inr (f_X4_carsInState (xN X) 2, X) else
  if w = 4 then .inr (f_X4_carsInState (xN X) 3, X) else
  if w = 5 then .inr (f_X4_carsInState (xN X) 4, X) else
  if w = 6 then .inr (sM (xN X), X) else
  if w = 7 then .inr (f_X4_gapCount (xN X), X) else
  if w = 8 then .inr (f_X4_longestGap (xN X), X) else
  if w = 9 then .inr (f_X4_cellsWith (xN X) (-1), X) else
  if w = 10 then .inr (f_X4_cellsWith (xN X) 100, X) else
  if w = 11 then .inr (f_X4_allParkedMinutes (xN X), X) else
  .inl "java/lang/IllegalArgumentException"
set_option maxHeartbeats 4000000 in
set_option maxRecDepth 100000 in
theorem c_X6_about (l : Launch) (G : GG) (b : Nat) (X : Cx) (w : Int32) (hst : l.stackTraces = false) : vx_Met l yX6_about wsX6_about ({ frames := 8, cells := 1, slots := 6, locals := 120 }) (PcT G (blk b (b + 170)) [.ref b, .int w] (Cb G b X)) (QX (h_X6_about X w) (Cb G b) (blk b (b + 170))) (XX (h_X6_about X w)) 1 6 (blk b (b + 170)) := by
  refine metX (cc := cX6_about) (maxL := 2) (ret := (some .int)) (by decide) rfl ?_
  intro p e s m below meth cd hx hb hr hml hown hts hlocks hno hP hO hTh
  have hin4 : ∀ w ∈ u_ws RX4 TX4 14, w ∈ wsX6_about := by decide +kernel
  have hin6 : ∀ w ∈ u_ws RX6 TX6 5, w ∈ wsX6_about := by decide +kernel
  have hf_19 := hts (.fieldLink RX6 19 "CurbCars" "now" "LCurbCars$Street;") (by decide +kernel)
  have hA : ∀ q, (blk b (b + 170)) q → (blk b (b + 170)) q := fun _ h => h
  have hS : va_S (blk b (b + 170)) s.heap s.heap [] := va_S.rf
  have hl := lv_entry ([.ref b, .int w]) (n := 2) (Nat.le_of_ble_eq_true rfl)
  rw [lg_entry_eq]
  generalize (lg_sl ([.ref b, .int w]) ++ List.replicate (2 - (lg_sl ([.ref b, .int w])).length) Slot.unset).toArray = ls at hl ⊢
  have hl : lv_has ls 2 [(0, .ref b), (1, .int w)] := hl
  refine lv_iload_n hx hb dX6_about_0 rfl (lv_at hl 1 rfl) ?_
  by_cases c_1 : w = 0
  · refine lv_tableIn (off := 63) (tgt := 64) hx hb dX6_about_1 (by rw [c_1]; decide) (by rw [c_1]; decide) (by rw [c_1]; decide +kernel) (by decide) ?_
    refine lv_aload_n hx hb dX6_about_64 rfl (lv_at hl 0 rfl) ?_
    refine va_get (D := G.1) (ci := 4) (v := .ref (b + 3)) (C := RX6) (T := TX6) (N := 5) hx hb hts hin6 hown hO.1 hP.1 0 rfl rfl 1 (by decide) hf_19 (fun _ h9 => h9) rfl dX6_about_65 ?_
    refine va_getN (D := G.1) (ci := 2) (v := .int (sN (xN X))) (C := RX4) (T := TX4) (N := 14) hx hb hts hin4 hown hO.1 hP.2.2.1 0 rfl rfl 8 (by decide) (va_Nw.use rfl (hO.2 _ (List.mem_of_getElem? (i := 11) rfl))) (fun _ h9 => h9) rfl dX6_about_68 ?_
    have hE : h_X6_about X w = .inr (sN (xN X), X) := (by rw [h_X6_about, if_pos c_1])
    exact W.widen (k := 1) (n := 6) (Nat.le_of_ble_eq_true rfl) (Nat.le_of_ble_eq_true rfl) (vx_ret (W.iret hx hb hr (fun t ht hW => ⟨_, _, hE, rfl, by rw [ht]; exact hP, hS.F ht⟩) hS.2.2 dX6_about_71))
  by_cases c_2 : w = 1
  · refine lv_tableIn (off := 71) (tgt := 72) hx hb dX6_about_1 (by rw [c_2]; decide) (by rw [c_2]; decide) (by rw [c_2]; decide +kernel) (by decide) ?_
    refine lv_aload_n hx hb dX6_about_72 rfl (lv_at hl 0 rfl) ?_
    refine va_get (D := G.1) (ci := 4) (v := .ref (b + 3)) (C := RX6) (T := TX6) (N := 5) hx hb hts hin6 hown hO.1 hP.1 0 rfl rfl 1 (by decide) hf_19 (fun _ h9 => h9) rfl dX6_about_73 ?_
    refine lv_iconst (v := 0) hx hb dX6_about_76 (by decide) ?_
    refine cl_pi (rVN (As := [.int 0]) (rest := []) ⟨hx, hb, hml, hown, hts⟩ (c_X4_carsInState l G (b + 3) (xN X) 0) ⟨va_cnB 1 hts gX6_about_X4_carsInState_n93 rfl rfl rfl (hO.2 _ (List.mem_of_getElem? (i := 42) rfl)) (hts (.initialized RX4) (by decide +kernel)) (by decide +kernel) ⟨Nat.le_of_ble_eq_true rfl, Nat.le_of_ble_eq_true rfl⟩, hts (.instanceMethod yX4_carsInState) (by decide +kernel), hts (.selects RX4 yX4_carsInState yX4_carsInState) (by decide +kernel)⟩ (st_recv hO hP.2.2.1) hP.2.2.1 hO rfl hl.1 (Nat.le_of_ble_eq_true rfl) dX6_about_77 ⟨Nat.le_of_ble_eq_true rfl, Nat.le_of_ble_eq_true rfl⟩) ?_
    have hE : h_X6_about X w = .inr (f_X4_carsInState (xN X) 0, X) := (by rw [h_X6_about, if_neg c_1, if_pos c_2])
    exact W.widen (k := 1) (n := 6) (Nat.le_of_ble_eq_true rfl) (Nat.le_of_ble_eq_true rfl) (vx_ret (W.iret hx hb hr (fun t ht hW => ⟨_, _, hE, rfl, by rw [ht]; exact hP, hS.F ht⟩) hS.2.2 dX6_about_80))
  by_cases c_3 : w = 2
  · refine lv_tableIn (off := 80) (tgt := 81) hx hb dX6_about_1 (by rw [c_3]; decide) (by rw [c_3]; decide) (by rw [c_3]; decide +kernel) (by decide) ?_
    refine lv_aload_n hx hb dX6_about_81 rfl (lv_at hl 0 rfl) ?_
    refine va_get (D := G.1) (ci := 4) (v := .ref (b + 3)) (C := RX6) (T := TX6) (N := 5) hx hb hts hin6 hown hO.1 hP.1 0 rfl rfl 1 (by decide) hf_19 (fun _ h9 => h9) rfl dX6_about_82 ?_
    refine lv_iconst (v := 1) hx hb dX6_about_85 (by decide) ?_
    refine cl_pi (rVN (As := [.int 1]) (rest := []) ⟨hx, hb, hml, hown, hts⟩ (c_X4_carsInState l G (b + 3) (xN X) 1) ⟨va_cnB 1 hts gX6_about_X4_carsInState_n93 rfl rfl rfl (hO.2 _ (List.mem_of_getElem? (i := 42) rfl)) (hts (.initialized RX4) (by decide +kernel)) (by decide +kernel) ⟨Nat.le_of_ble_eq_true rfl, Nat.le_of_ble_eq_true rfl⟩, hts (.instanceMethod yX4_carsInState) (by decide +kernel), hts (.selects RX4 yX4_carsInState yX4_carsInState) (by decide +kernel)⟩ (st_recv hO hP.2.2.1) hP.2.2.1 hO rfl hl.1 (Nat.le_of_ble_eq_true rfl) dX6_about_86 ⟨Nat.le_of_ble_eq_true rfl, Nat.le_of_ble_eq_true rfl⟩) ?_
    have hE : h_X6_about X w = .inr (f_X4_carsInState (xN X) 1, X) := (by rw [h_X6_about, if_neg c_1, if_neg c_2, if_pos c_3])
    exact W.widen (k := 1) (n := 6) (Nat.le_of_ble_eq_true rfl) (Nat.le_of_ble_eq_true rfl) (vx_ret (W.iret hx hb hr (fun t ht hW => ⟨_, _, hE, rfl, by rw [ht]; exact hP, hS.F ht⟩) hS.2.2 dX6_about_89))
  by_cases c_4 : w = 3
  · refine lv_tableIn (off := 89) (tgt := 90) hx hb dX6_about_1 (by rw [c_4]; decide) (by rw [c_4]; decide) (by rw [c_4]; decide +kernel) (by decide) ?_
    refine lv_aload_n hx hb dX6_about_90 rfl (lv_at hl 0 rfl) ?_
    refine va_get (D := G.1) (ci := 4) (v := .ref (b + 3)) (C := RX6) (T := TX6) (N := 5) hx hb hts hin6 hown hO.1 hP.1 0 rfl rfl 1 (by decide) hf_19 (fun _ h9 => h9) rfl dX6_about_91 ?_
    refine lv_iconst (v := 2) hx hb dX6_about_94 (by decide) ?_
    refine cl_pi (rVN (As := [.int 2]) (rest := []) ⟨hx, hb, hml, hown, hts⟩ (c_X4_carsInState l G (b + 3) (xN X) 2) ⟨va_cnB 1 hts gX6_about_X4_carsInState_n93 rfl rfl rfl (hO.2 _ (List.mem_of_getElem? (i := 42) rfl)) (hts (.initialized RX4) (by decide +kernel)) (by decide +kernel) ⟨Nat.le_of_ble_eq_true rfl, Nat.le_of_ble_eq_true rfl⟩, hts (.instanceMethod yX4_carsInState) (by decide +kernel), hts (.selects RX4 yX4_carsInState yX4_carsInState) (by decide +kernel)⟩ (st_recv hO hP.2.2.1) hP.2.2.1 hO rfl hl.1 (Nat.le_of_ble_eq_true rfl) dX6_about_95 ⟨Nat.le_of_ble_eq_true rfl, Nat.le_of_ble_eq_true rfl⟩) ?_
    have hE : h_X6_about X w = .inr (f_X4_carsInState (xN X) 2, X) := (by rw [h_X6_about, if_neg c_1, if_neg c_2, if_neg c_3, if_pos c_4])
    exact W.widen (k := 1) (n := 6) (Nat.le_of_ble_eq_true rfl) (Nat.le_of_ble_eq_true rfl) (vx_ret (W.iret hx hb hr (fun t ht hW => ⟨_, _, hE, rfl, by rw [ht]; exact hP, hS.F ht⟩) hS.2.2 dX6_about_98))
  by_cases c_5 : w = 4
  · refine lv_tableIn (off := 98) (tgt := 99) hx hb dX6_about_1 (by rw [c_5]; decide) (by rw [c_5]; decide) (by rw [c_5]; decide +kernel) (by decide) ?_
    refine lv_aload_n hx hb dX6_about_99 rfl (lv_at hl 0 rfl) ?_
    refine va_get (D := G.1) (ci := 4) (v := .ref (b + 3)) (C := RX6) (T := TX6) (N := 5) hx hb hts hin6 hown hO.1 hP.1 0 rfl rfl 1 (by decide) hf_19 (fun _ h9 => h9) rfl dX6_about_100 ?_
    refine lv_iconst (v := 3) hx hb dX6_about_103 (by decide) ?_
    refine cl_pi (rVN (As := [.int 3]) (rest := []) ⟨hx, hb, hml, hown, hts⟩ (c_X4_carsInState l G (b + 3) (xN X) 3) ⟨va_cnB 1 hts gX6_about_X4_carsInState_n93 rfl rfl rfl (hO.2 _ (List.mem_of_getElem? (i := 42) rfl)) (hts (.initialized RX4) (by decide +kernel)) (by decide +kernel) ⟨Nat.le_of_ble_eq_true rfl, Nat.le_of_ble_eq_true rfl⟩, hts (.instanceMethod yX4_carsInState) (by decide +kernel), hts (.selects RX4 yX4_carsInState yX4_carsInState) (by decide +kernel)⟩ (st_recv hO hP.2.2.1) hP.2.2.1 hO rfl hl.1 (Nat.le_of_ble_eq_true rfl) dX6_about_104 ⟨Nat.le_of_ble_eq_true rfl, Nat.le_of_ble_eq_true rfl⟩) ?_
    have hE : h_X6_about X w = .inr (f_X4_carsInState (xN X) 3, X) := (by rw [h_X6_about, if_neg c_1, if_neg c_2, if_neg c_3, if_neg c_4, if_pos c_5])
    exact W.widen (k := 1) (n := 6) (Nat.le_of_ble_eq_true rfl) (Nat.le_of_ble_eq_true rfl) (vx_ret (W.iret hx hb hr (fun t ht hW => ⟨_, _, hE, rfl, by rw [ht]; exact hP, hS.F ht⟩) hS.2.2 dX6_about_107))
  by_cases c_6 : w = 5
  · refine lv_tableIn (off := 107) (tgt := 108) hx hb dX6_about_1 (by rw [c_6]; decide) (by rw [c_6]; decide) (by rw [c_6]; decide +kernel) (by decide) ?_
    refine lv_aload_n hx hb dX6_about_108 rfl (lv_at hl 0 rfl) ?_
    refine va_get (D := G.1) (ci := 4) (v := .ref (b + 3)) (C := RX6) (T := TX6) (N := 5) hx hb hts hin6 hown hO.1 hP.1 0 rfl rfl 1 (by decide) hf_19 (fun _ h9 => h9) rfl dX6_about_109 ?_
    refine lv_iconst (v := 4) hx hb dX6_about_112 (by decide) ?_
    refine cl_pi (rVN (As := [.int 4]) (rest := []) ⟨hx, hb, hml, hown, hts⟩ (c_X4_carsInState l G (b + 3) (xN X) 4) ⟨va_cnB 1 hts gX6_about_X4_carsInState_n93 rfl rfl rfl (hO.2 _ (List.mem_of_getElem? (i := 42) rfl)) (hts (.initialized RX4) (by decide +kernel)) (by decide +kernel) ⟨Nat.le_of_ble_eq_true rfl, Nat.le_of_ble_eq_true rfl⟩, hts (.instanceMethod yX4_carsInState) (by decide +kernel), hts (.selects RX4 yX4_carsInState yX4_carsInState) (by decide +kernel)⟩ (st_recv hO hP.2.2.1) hP.2.2.1 hO rfl hl.1 (Nat.le_of_ble_eq_true rfl) dX6_about_113 ⟨Nat.le_of_ble_eq_true rfl, Nat.le_of_ble_eq_true rfl⟩) ?_
    have hE : h_X6_about X w = .inr (f_X4_carsInState (xN X) 4, X) := (by rw [h_X6_about, if_neg c_1, if_neg c_2, if_neg c_3, if_neg c_4, if_neg c_5, if_pos c_6])
    exact W.widen (k := 1) (n := 6) (Nat.le_of_ble_eq_true rfl) (Nat.le_of_ble_eq_true rfl) (vx_ret (W.iret hx hb hr (fun t ht hW => ⟨_, _, hE, rfl, by rw [ht]; exact hP, hS.F ht⟩) hS.2.2 dX6_about_116))
  by_cases c_7 : w = 6
  · refine lv_tableIn (off := 116) (tgt := 117) hx hb dX6_about_1 (by rw [c_7]; decide) (by rw [c_7]; decide) (by rw [c_7]; decide +kernel) (by decide) ?_
    refine lv_aload_n hx hb dX6_about_117 rfl (lv_at hl 0 rfl) ?_
    refine va_get (D := G.1) (ci := 4) (v := .ref (b + 3)) (C := RX6) (T := TX6) (N := 5) hx hb hts hin6 hown hO.1 hP.1 0 rfl rfl 1 (by decide) hf_19 (fun _ h9 => h9) rfl dX6_about_118 ?_
    refine va_getN (D := G.1) (ci := 2) (v := .int (sM (xN X))) (C := RX4) (T := TX4) (N := 14) hx hb hts hin4 hown hO.1 hP.2.2.1 0 rfl rfl 9 (by decide) (va_Nw.use rfl (hO.2 _ (List.mem_of_getElem? (i := 12) rfl))) (fun _ h9 => h9) rfl dX6_about_121 ?_
    have hE : h_X6_about X w = .inr (sM (xN X), X) := (by rw [h_X6_about, if_neg c_1, if_neg c_2, if_neg c_3, if_neg c_4, if_neg c_5, if_neg c_6, if_pos c_7])
    exact W.widen (k := 1) (n := 6) (Nat.le_of_ble_eq_true rfl) (Nat.le_of_ble_eq_true rfl) (vx_ret (W.iret hx hb hr (fun t ht hW => ⟨_, _, hE, rfl, by rw [ht]; exact hP, hS.F ht⟩) hS.2.2 dX6_about_124))
  by_cases c_8 : w = 7
  · refine lv_tableIn (off := 124) (tgt := 125) hx hb dX6_about_1 (by rw [c_8]; decide) (by rw [c_8]; decide) (by rw [c_8]; decide +kernel) (by decide) ?_
    refine lv_aload_n hx hb dX6_about_125 rfl (lv_at hl 0 rfl) ?_
    refine va_get (D := G.1) (ci := 4) (v := .ref (b + 3)) (C := RX6) (T := TX6) (N := 5) hx hb hts hin6 hown hO.1 hP.1 0 rfl rfl 1 (by decide) hf_19 (fun _ h9 => h9) rfl dX6_about_126 ?_
    refine cl_pi (rVN (As := []) (rest := []) ⟨hx, hb, hml, hown, hts⟩ (c_X4_gapCount l G (b + 3) (xN X)) ⟨va_cnB 0 hts gX6_about_X4_gapCount_n99 rfl rfl rfl (hO.2 _ (List.mem_of_getElem? (i := 43) rfl)) (hts (.initialized RX4) (by decide +kernel)) (by decide +kernel) ⟨Nat.le_of_ble_eq_true rfl, Nat.le_of_ble_eq_true rfl⟩, hts (.instanceMethod yX4_gapCount) (by decide +kernel), hts (.selects RX4 yX4_gapCount yX4_gapCount) (by decide +kernel)⟩ (st_recv hO hP.2.2.1) hP.2.2.1 hO rfl hl.1 (Nat.le_of_ble_eq_true rfl) dX6_about_129 ⟨Nat.le_of_ble_eq_true rfl, Nat.le_of_ble_eq_true rfl⟩) ?_
    have hE : h_X6_about X w = .inr (f_X4_gapCount (xN X), X) := (by rw [h_X6_about, if_neg c_1, if_neg c_2, if_neg c_3, if_neg c_4, if_neg c_5, if_neg c_6, if_neg c_7, if_pos c_8])
    exact W.widen (k := 1) (n := 6) (Nat.le_of_ble_eq_true rfl) (Nat.le_of_ble_eq_true rfl) (vx_ret (W.iret hx hb hr (fun t ht hW => ⟨_, _, hE, rfl, by rw [ht]; exact hP, hS.F ht⟩) hS.2.2 dX6_about_132))
  by_cases c_9 : w = 8
  · refine lv_tableIn (off := 132) (tgt := 133) hx hb dX6_about_1 (by rw [c_9]; decide) (by rw [c_9]; decide) (by rw [c_9]; decide +kernel) (by decide) ?_
    refine lv_aload_n hx hb dX6_about_133 rfl (lv_at hl 0 rfl) ?_
    refine va_get (D := G.1) (ci := 4) (v := .ref (b + 3)) (C := RX6) (T := TX6) (N := 5) hx hb hts hin6 hown hO.1 hP.1 0 rfl rfl 1 (by decide) hf_19 (fun _ h9 => h9) rfl dX6_about_134 ?_
    refine cl_pi (rVN (As := []) (rest := []) ⟨hx, hb, hml, hown, hts⟩ (c_X4_longestGap l G (b + 3) (xN X)) ⟨va_cnB 0 hts gX6_about_X4_longestGap_n102 rfl rfl rfl (hO.2 _ (List.mem_of_getElem? (i := 44) rfl)) (hts (.initialized RX4) (by decide +kernel)) (by decide +kernel) ⟨Nat.le_of_ble_eq_true rfl, Nat.le_of_ble_eq_true rfl⟩, hts (.instanceMethod yX4_longestGap) (by decide +kernel), hts (.selects RX4 yX4_longestGap yX4_longestGap) (by decide +kernel)⟩ (st_recv hO hP.2.2.1) hP.2.2.1 hO rfl hl.1 (Nat.le_of_ble_eq_true rfl) dX6_about_137 ⟨Nat.le_of_ble_eq_true rfl, Nat.le_of_ble_eq_true rfl⟩) ?_
    have hE : h_X6_about X w = .inr (f_X4_longestGap (xN X), X) := (by rw [h_X6_about, if_neg c_1, if_neg c_2, if_neg c_3, if_neg c_4, if_neg c_5, if_neg c_6, if_neg c_7, if_neg c_8, if_pos c_9])
    exact W.widen (k := 1) (n := 6) (Nat.le_of_ble_eq_true rfl) (Nat.le_of_ble_eq_true rfl) (vx_ret (W.iret hx hb hr (fun t ht hW => ⟨_, _, hE, rfl, by rw [ht]; exact hP, hS.F ht⟩) hS.2.2 dX6_about_140))
  by_cases c_10 : w = 9
  · refine lv_tableIn (off := 140) (tgt := 141) hx hb dX6_about_1 (by rw [c_10]; decide) (by rw [c_10]; decide) (by rw [c_10]; decide +kernel) (by decide) ?_
    refine lv_aload_n hx hb dX6_about_141 rfl (lv_at hl 0 rfl) ?_
    refine va_get (D := G.1) (ci := 4) (v := .ref (b + 3)) (C := RX6) (T := TX6) (N := 5) hx hb hts hin6 hown hO.1 hP.1 0 rfl rfl 1 (by decide) hf_19 (fun _ h9 => h9) rfl dX6_about_142 ?_
    refine lv_iconst (v := -1) hx hb dX6_about_145 (by decide) ?_
    refine cl_pi (rVN (As := [.int (-1)]) (rest := []) ⟨hx, hb, hml, hown, hts⟩ (c_X4_cellsWith l G (b + 3) (xN X) (-1)) ⟨va_cnB 1 hts gX6_about_X4_cellsWith_n105 rfl rfl rfl (hO.2 _ (List.mem_of_getElem? (i := 45) rfl)) (hts (.initialized RX4) (by decide +kernel)) (by decide +kernel) ⟨Nat.le_of_ble_eq_true rfl, Nat.le_of_ble_eq_true rfl⟩, hts (.instanceMethod yX4_cellsWith) (by decide +kernel), hts (.selects RX4 yX4_cellsWith yX4_cellsWith) (by decide +kernel)⟩ (st_recv hO hP.2.2.1) hP.2.2.1 hO rfl hl.1 (Nat.le_of_ble_eq_true rfl) dX6_about_146 ⟨Nat.le_of_ble_eq_true rfl, Nat.le_of_ble_eq_true rfl⟩) ?_
    have hE : h_X6_about X w = .inr (f_X4_cellsWith (xN X) (-1), X) := (by rw [h_X6_about, if_neg c_1, if_neg c_2, if_neg c_3, if_neg c_4, if_neg c_5, if_neg c_6, if_neg c_7, if_neg c_8, if_neg c_9, if_pos c_10])
    exact W.widen (k := 1) (n := 6) (Nat.le_of_ble_eq_true rfl) (Nat.le_of_ble_eq_true rfl) (vx_ret (W.iret hx hb hr (fun t ht hW => ⟨_, _, hE, rfl, by rw [ht]; exact hP, hS.F ht⟩) hS.2.2 dX6_about_149))
  by_cases c_11 : w = 10
  · refine lv_tableIn (off := 149) (tgt := 150) hx hb dX6_about_1 (by rw [c_11]; decide) (by rw [c_11]; decide) (by rw [c_11]; decide +kernel) (by decide) ?_
    refine lv_aload_n hx hb dX6_about_150 rfl (lv_at hl 0 rfl) ?_
    refine va_get (D := G.1) (ci := 4) (v := .ref (b + 3)) (C := RX6) (T := TX6) (N := 5) hx hb hts hin6 hown hO.1 hP.1 0 rfl rfl 1 (by decide) hf_19 (fun _ h9 => h9) rfl dX6_about_151 ?_
    refine lv_bipush (v := 100) hx hb dX6_about_154 (by decide) ?_
    refine cl_pi (rVN (As := [.int 100]) (rest := []) ⟨hx, hb, hml, hown, hts⟩ (c_X4_cellsWith l G (b + 3) (xN X) 100) ⟨va_cnB 1 hts gX6_about_X4_cellsWith_n105 rfl rfl rfl (hO.2 _ (List.mem_of_getElem? (i := 45) rfl)) (hts (.initialized RX4) (by decide +kernel)) (by decide +kernel) ⟨Nat.le_of_ble_eq_true rfl, Nat.le_of_ble_eq_true rfl⟩, hts (.instanceMethod yX4_cellsWith) (by decide +kernel), hts (.selects RX4 yX4_cellsWith yX4_cellsWith) (by decide +kernel)⟩ (st_recv hO hP.2.2.1) hP.2.2.1 hO rfl hl.1 (Nat.le_of_ble_eq_true rfl) dX6_about_156 ⟨Nat.le_of_ble_eq_true rfl, Nat.le_of_ble_eq_true rfl⟩) ?_
    have hE : h_X6_about X w = .inr (f_X4_cellsWith (xN X) 100, X) := (by rw [h_X6_about, if_neg c_1, if_neg c_2, if_neg c_3, if_neg c_4, if_neg c_5, if_neg c_6, if_neg c_7, if_neg c_8, if_neg c_9, if_neg c_10, if_pos c_11])
    exact W.widen (k := 1) (n := 6) (Nat.le_of_ble_eq_true rfl) (Nat.le_of_ble_eq_true rfl) (vx_ret (W.iret hx hb hr (fun t ht hW => ⟨_, _, hE, rfl, by rw [ht]; exact hP, hS.F ht⟩) hS.2.2 dX6_about_159))
  by_cases c_12 : w = 11
  · refine lv_tableIn (off := 159) (tgt := 160) hx hb dX6_about_1 (by rw [c_12]; decide) (by rw [c_12]; decide) (by rw [c_12]; decide +kernel) (by decide) ?_
    refine lv_aload_n hx hb dX6_about_160 rfl (lv_at hl 0 rfl) ?_
    refine va_get (D := G.1) (ci := 4) (v := .ref (b + 3)) (C := RX6) (T := TX6) (N := 5) hx hb hts hin6 hown hO.1 hP.1 0 rfl rfl 1 (by decide) hf_19 (fun _ h9 => h9) rfl dX6_about_161 ?_
    refine cl_pi (rVN (As := []) (rest := []) ⟨hx, hb, hml, hown, hts⟩ (c_X4_allParkedMinutes l G (b + 3) (xN X)) ⟨va_cnB 0 hts gX6_about_X4_allParkedMinutes_n108 rfl rfl rfl (hO.2 _ (List.mem_of_getElem? (i := 46) rfl)) (hts (.initialized RX4) (by decide +kernel)) (by decide +kernel) ⟨Nat.le_of_ble_eq_true rfl, Nat.le_of_ble_eq_true rfl⟩, hts (.instanceMethod yX4_allParkedMinutes) (by decide +kernel), hts (.selects RX4 yX4_allParkedMinutes yX4_allParkedMinutes) (by decide +kernel)⟩ (st_recv hO hP.2.2.1) hP.2.2.1 hO rfl hl.1 (Nat.le_of_ble_eq_true rfl) dX6_about_164 ⟨Nat.le_of_ble_eq_true rfl, Nat.le_of_ble_eq_true rfl⟩) ?_
    have hE : h_X6_about X w = .inr (f_X4_allParkedMinutes (xN X), X) := (by rw [h_X6_about, if_neg c_1, if_neg c_2, if_neg c_3, if_neg c_4, if_neg c_5, if_neg c_6, if_neg c_7, if_neg c_8, if_neg c_9, if_neg c_10, if_neg c_11, if_pos c_12])
    exact W.widen (k := 1) (n := 6) (Nat.le_of_ble_eq_true rfl) (Nat.le_of_ble_eq_true rfl) (vx_ret (W.iret hx hb hr (fun t ht hW => ⟨_, _, hE, rfl, by rw [ht]; exact hP, hS.F ht⟩) hS.2.2 dX6_about_167))
  refine lv_tableOut (tgt := 168) hx hb dX6_about_1 (tab_12 c_1 c_2 c_3 c_4 c_5 c_6 c_7 c_8 c_9 c_10 c_11 c_12) (by decide) ?_
  have hE : h_X6_about X w = .inl "java/lang/IllegalArgumentException" := (by rw [h_X6_about, if_neg c_1, if_neg c_2, if_neg c_3, if_neg c_4, if_neg c_5, if_neg c_6, if_neg c_7, if_neg c_8, if_neg c_9, if_neg c_10, if_neg c_11, if_neg c_12])
  obtain ⟨sa, hsa⟩ := hTh.2.2.2 0 _ rfl
  exact vx_throwS (names := ["java/lang/RuntimeException", "java/lang/Exception"]) (sa := sa) hx hb hst hown (by decide +kernel) (by decide +kernel) (hts (.classLink RX6 40 "java/lang/IllegalArgumentException") (by decide +kernel)) (hts (.initialized "java/lang/IllegalArgumentException") (by decide +kernel)) hsa (vx_hat (fun w h => hts w (List.mem_cons_of_mem _ (List.mem_append_right _ h))) thr_sub44 hTh.w) thr_good44 hTh.2.1 hTh.2.2.1 hS (by rw [hml]; exact hl.1) dX6_about_168 dX6_about_171 dX6_about_172 dX6_about_174 dX6_about_177 (fun x hx => (hno x hx).elim) (Nat.le_of_ble_eq_true rfl) (Nat.le_of_ble_eq_true rfl) (Nat.le_of_ble_eq_true rfl) (Nat.le_of_ble_eq_true rfl) hlocks (fun t _ h1 h2 => ⟨hE, h1, fun q hq _ => h2 q hq⟩) hS.2.2 (Nat.le_of_ble_eq_true rfl) (Nat.le_of_ble_eq_true rfl)

def h_X6_carOf (X : Cx) (c : Int32) (w : Int32) : String ⊕ (Int32 × Cx) :=
  if (f_X6_requireCar X c) = 0 then .inl "java/lang/IndexOutOfBoundsException" else
  if w = 0 then .inr (f_X6_get 40 (sL (xN X)) c, X) else
  if w = 1 then .inr (f_X6_get 40 (sY (xN X)) c, X) else
  if w = 2 then .inr (f_X6_get 40 (sT (xN X)) c, X) else
  if w = 3 then .inr (f_X6_get 40 (sP (xN X)) c, X) else
  if w = 4 then .inr (f_X6_get 40 (sK (xN X)) c, X) else
  if w = 5 then .inr (f_X6_get 40 (sR (xN X)) c, X) else
  if w = 6 then (if (f_X4_isParked (xN X) c) = 0 then .inr ((-1), X) else
    .inr (f_X4_minutesLeft (xN X) c, X)) else
  .inl "java/lang/IllegalArgumentException"
set_option maxHeartbeats 4000000 in
set_option maxRecDepth 100000 in
theorem c_X6_carOf (l : Launch) (G : GG) (b : Nat) (X : Cx) (c : Int32) (w : Int32) (hst : l.stackTraces = false) : vx_Met l yX6_carOf wsX6_carOf ({ frames := 9, cells := 1, slots := 6, locals := 141 }) (PcT G (blk b (b + 170)) [.ref b, .int c, .int w] (Cb G b X)) (QX (h_X6_carOf X c w) (Cb G b) (blk b (b + 170))) (XX (h_X6_carOf X c w)) 1 6 (blk b (b + 170)) := by
  refine metX (cc := cX6_carOf) (maxL := 3) (ret := (some .int)) (by decide) rfl ?_
  intro p e s m below meth cd hx hb hr hml hown hts hlocks hno hP hO hTh
  have hin4 : ∀ w ∈ u_ws RX4 TX4 14, w ∈ wsX6_carOf := by decide +kernel
  have hin6 : ∀ w ∈ u_ws RX6 TX6 5, w ∈ wsX6_carOf := by decide +kernel
  have hf_19 := hts (.fieldLink RX6 19 "CurbCars" "now" "LCurbCars$Street;") (by decide +kernel)
  have hA : ∀ q, (blk b (b + 170)) q → (blk b (b + 170)) q := fun _ h => h
  have hS : va_S (blk b (b + 170)) s.heap s.heap [] := va_S.rf
  have hl := lv_entry ([.ref b, .int c, .int w]) (n := 3) (Nat.le_of_ble_eq_true rfl)
  rw [lg_entry_eq]
  generalize (lg_sl ([.ref b, .int c, .int w]) ++ List.replicate (3 - (lg_sl ([.ref b, .int c, .int w])).length) Slot.unset).toArray = ls at hl ⊢
  have hl : lv_has ls 3 [(0, .ref b), (1, .int c), (2, .int w)] := hl
  refine lv_aload_n hx hb dX6_carOf_0 rfl (lv_at hl 0 rfl) ?_
  refine lv_iload_n hx hb dX6_carOf_1 rfl (lv_at hl 1 rfl) ?_
  by_cases c_1 : (f_X6_requireCar X c) = 0
  · have hE : h_X6_carOf X c w = .inl "java/lang/IndexOutOfBoundsException" := (by rw [h_X6_carOf, if_pos c_1])
    exact cl_tx (xW (As := [.int c]) (rest := []) ⟨hx, hb, hml, hown, hts⟩ (c_X6_requireCar_t l G b (blk b (b + 170)) X c hst c_1) (cwV 1 hts gX6_carOf_X6_requireCar rfl rfl rfl (by decide +kernel) ⟨Nat.le_of_ble_eq_true rfl, Nat.le_of_ble_eq_true rfl⟩) (cb_recv hO hP) hP hO (fun U hU hW => hTh.warm hW hU) rfl hl.1 (Nat.le_of_ble_eq_true rfl) dX6_carOf_2 ⟨Nat.le_of_ble_eq_true rfl, Nat.le_of_ble_eq_true rfl⟩) (fun q h => h) hno hlocks (Nat.le_of_ble_eq_true rfl) (Nat.le_of_ble_eq_true rfl) (fun t h => ⟨hE, h⟩)
  · refine cl_pv (rV (As := [.int c]) (rest := []) ⟨hx, hb, hml, hown, hts⟩ (c_X6_requireCar_n l G b X c c_1) (cwV 1 hts gX6_carOf_X6_requireCar rfl rfl rfl (by decide +kernel) ⟨Nat.le_of_ble_eq_true rfl, Nat.le_of_ble_eq_true rfl⟩) (cb_recv hO hP) hP hO rfl hl.1 (Nat.le_of_ble_eq_true rfl) dX6_carOf_2 ⟨Nat.le_of_ble_eq_true rfl, Nat.le_of_ble_eq_true rfl⟩) ?_
    refine lv_iload_n hx hb dX6_carOf_5 rfl (lv_at hl 2 rfl) ?_
    by_cases c_2 : w = 0
    · refine lv_tableIn (off := 42) (tgt := 48) hx hb dX6_carOf_6 (by rw [c_2]; decide) (by rw [c_2]; decide) (by rw [c_2]; decide +kernel) (by decide) ?_
      refine lv_aload_n hx hb dX6_carOf_48 rfl (lv_at hl 0 rfl) ?_
      refine va_get (D := G.1) (ci := 4) (v := .ref (b + 3)) (C := RX6) (T := TX6) (N := 5) hx hb hts hin6 hown hO.1 hP.1 0 rfl rfl 1 (by decide) hf_19 (fun _ h9 => h9) rfl dX6_carOf_49 ?_
      refine va_getN (D := G.1) (ci := 2) (v := .ref ((b + 3) + 3)) (C := RX4) (T := TX4) (N := 14) hx hb hts hin4 hown hO.1 hP.2.2.1 0 rfl rfl 2 (by decide) (va_Nw.use rfl (hO.2 _ (List.mem_of_getElem? (i := 4) rfl))) (fun _ h9 => h9) rfl dX6_carOf_52 ?_
      refine lv_iload_n hx hb dX6_carOf_55 rfl (lv_at hl 1 rfl) ?_
      refine cl_pi (rS (As := [.ref ((b + 3) + 3), .int c]) (rest := []) ⟨hx, hb, hml, hown, hts⟩ (c_X6_get l G ((b + 3) + 3) 40 (sL (xN X)) c (by decide)) (va_cwS 2 hts gX6_carOf_X6_get rfl rfl rfl (by decide +kernel) ⟨Nat.le_of_ble_eq_true rfl, Nat.le_of_ble_eq_true rfl⟩) (va_P.sub hP.2.2.1 [3] rfl) hO rfl hl.1 (Nat.le_of_ble_eq_true rfl) dX6_carOf_56 ⟨Nat.le_of_ble_eq_true rfl, Nat.le_of_ble_eq_true rfl⟩) ?_
      have hE : h_X6_carOf X c w = .inr (f_X6_get 40 (sL (xN X)) c, X) := (by rw [h_X6_carOf, if_neg c_1, if_pos c_2])
      exact W.widen (k := 1) (n := 6) (Nat.le_of_ble_eq_true rfl) (Nat.le_of_ble_eq_true rfl) (vx_ret (W.iret hx hb hr (fun t ht hW => ⟨_, _, hE, rfl, by rw [ht]; exact hP, hS.F ht⟩) hS.2.2 dX6_carOf_59))
    by_cases c_3 : w = 1
    · refine lv_tableIn (off := 54) (tgt := 60) hx hb dX6_carOf_6 (by rw [c_3]; decide) (by rw [c_3]; decide) (by rw [c_3]; decide +kernel) (by decide) ?_
      refine lv_aload_n hx hb dX6_carOf_60 rfl (lv_at hl 0 rfl) ?_
      refine va_get (D := G.1) (ci := 4) (v := .ref (b + 3)) (C := RX6) (T := TX6) (N := 5) hx hb hts hin6 hown hO.1 hP.1 0 rfl rfl 1 (by decide) hf_19 (fun _ h9 => h9) rfl dX6_carOf_61 ?_
      refine va_getN (D := G.1) (ci := 2) (v := .ref ((b + 3) + 4)) (C := RX4) (T := TX4) (N := 14) hx hb hts hin4 hown hO.1 hP.2.2.1 0 rfl rfl 3 (by decide) (va_Nw.use rfl (hO.2 _ (List.mem_of_getElem? (i := 5) rfl))) (fun _ h9 => h9) rfl dX6_carOf_64 ?_
      refine lv_iload_n hx hb dX6_carOf_67 rfl (lv_at hl 1 rfl) ?_
      refine cl_pi (rS (As := [.ref ((b + 3) + 4), .int c]) (rest := []) ⟨hx, hb, hml, hown, hts⟩ (c_X6_get l G ((b + 3) + 4) 40 (sY (xN X)) c (by decide)) (va_cwS 2 hts gX6_carOf_X6_get rfl rfl rfl (by decide +kernel) ⟨Nat.le_of_ble_eq_true rfl, Nat.le_of_ble_eq_true rfl⟩) (va_P.sub hP.2.2.1 [4] rfl) hO rfl hl.1 (Nat.le_of_ble_eq_true rfl) dX6_carOf_68 ⟨Nat.le_of_ble_eq_true rfl, Nat.le_of_ble_eq_true rfl⟩) ?_
      have hE : h_X6_carOf X c w = .inr (f_X6_get 40 (sY (xN X)) c, X) := (by rw [h_X6_carOf, if_neg c_1, if_neg c_2, if_pos c_3])
      exact W.widen (k := 1) (n := 6) (Nat.le_of_ble_eq_true rfl) (Nat.le_of_ble_eq_true rfl) (vx_ret (W.iret hx hb hr (fun t ht hW => ⟨_, _, hE, rfl, by rw [ht]; exact hP, hS.F ht⟩) hS.2.2 dX6_carOf_71))
    by_cases c_4 : w = 2
    · refine lv_tableIn (off := 66) (tgt := 72) hx hb dX6_carOf_6 (by rw [c_4]; decide) (by rw [c_4]; decide) (by rw [c_4]; decide +kernel) (by decide) ?_
      refine lv_aload_n hx hb dX6_carOf_72 rfl (lv_at hl 0 rfl) ?_
      refine va_get (D := G.1) (ci := 4) (v := .ref (b + 3)) (C := RX6) (T := TX6) (N := 5) hx hb hts hin6 hown hO.1 hP.1 0 rfl rfl 1 (by decide) hf_19 (fun _ h9 => h9) rfl dX6_carOf_73 ?_
      refine va_getN (D := G.1) (ci := 2) (v := .ref ((b + 3) + 5)) (C := RX4) (T := TX4) (N := 14) hx hb hts hin4 hown hO.1 hP.2.2.1 0 rfl rfl 4 (by decide) (va_Nw.use rfl (hO.2 _ (List.mem_of_getElem? (i := 7) rfl))) (fun _ h9 => h9) rfl dX6_carOf_76 ?_
      refine lv_iload_n hx hb dX6_carOf_79 rfl (lv_at hl 1 rfl) ?_
      refine cl_pi (rS (As := [.ref ((b + 3) + 5), .int c]) (rest := []) ⟨hx, hb, hml, hown, hts⟩ (c_X6_get l G ((b + 3) + 5) 40 (sT (xN X)) c (by decide)) (va_cwS 2 hts gX6_carOf_X6_get rfl rfl rfl (by decide +kernel) ⟨Nat.le_of_ble_eq_true rfl, Nat.le_of_ble_eq_true rfl⟩) (va_P.sub hP.2.2.1 [5] rfl) hO rfl hl.1 (Nat.le_of_ble_eq_true rfl) dX6_carOf_80 ⟨Nat.le_of_ble_eq_true rfl, Nat.le_of_ble_eq_true rfl⟩) ?_
      have hE : h_X6_carOf X c w = .inr (f_X6_get 40 (sT (xN X)) c, X) := (by rw [h_X6_carOf, if_neg c_1, if_neg c_2, if_neg c_3, if_pos c_4])
      exact W.widen (k := 1) (n := 6) (Nat.le_of_ble_eq_true rfl) (Nat.le_of_ble_eq_true rfl) (vx_ret (W.iret hx hb hr (fun t ht hW => ⟨_, _, hE, rfl, by rw [ht]; exact hP, hS.F ht⟩) hS.2.2 dX6_carOf_83))
    by_cases c_5 : w = 3
    · refine lv_tableIn (off := 78) (tgt := 84) hx hb dX6_carOf_6 (by rw [c_5]; decide) (by rw [c_5]; decide) (by rw [c_5]; decide +kernel) (by decide) ?_
      refine lv_aload_n hx hb dX6_carOf_84 rfl (lv_at hl 0 rfl) ?_
      refine va_get (D := G.1) (ci := 4) (v := .ref (b + 3)) (C := RX6) (T := TX6) (N := 5) hx hb hts hin6 hown hO.1 hP.1 0 rfl rfl 1 (by decide) hf_19 (fun _ h9 => h9) rfl dX6_carOf_85 ?_
      refine va_getN (D := G.1) (ci := 2) (v := .ref ((b + 3) + 6)) (C := RX4) (T := TX4) (N := 14) hx hb hts hin4 hown hO.1 hP.2.2.1 0 rfl rfl 5 (by decide) (va_Nw.use rfl (hO.2 _ (List.mem_of_getElem? (i := 8) rfl))) (fun _ h9 => h9) rfl dX6_carOf_88 ?_
      refine lv_iload_n hx hb dX6_carOf_91 rfl (lv_at hl 1 rfl) ?_
      refine cl_pi (rS (As := [.ref ((b + 3) + 6), .int c]) (rest := []) ⟨hx, hb, hml, hown, hts⟩ (c_X6_get l G ((b + 3) + 6) 40 (sP (xN X)) c (by decide)) (va_cwS 2 hts gX6_carOf_X6_get rfl rfl rfl (by decide +kernel) ⟨Nat.le_of_ble_eq_true rfl, Nat.le_of_ble_eq_true rfl⟩) (va_P.sub hP.2.2.1 [6] rfl) hO rfl hl.1 (Nat.le_of_ble_eq_true rfl) dX6_carOf_92 ⟨Nat.le_of_ble_eq_true rfl, Nat.le_of_ble_eq_true rfl⟩) ?_
      have hE : h_X6_carOf X c w = .inr (f_X6_get 40 (sP (xN X)) c, X) := (by rw [h_X6_carOf, if_neg c_1, if_neg c_2, if_neg c_3, if_neg c_4, if_pos c_5])
      exact W.widen (k := 1) (n := 6) (Nat.le_of_ble_eq_true rfl) (Nat.le_of_ble_eq_true rfl) (vx_ret (W.iret hx hb hr (fun t ht hW => ⟨_, _, hE, rfl, by rw [ht]; exact hP, hS.F ht⟩) hS.2.2 dX6_carOf_95))
    by_cases c_6 : w = 4
    · refine lv_tableIn (off := 90) (tgt := 96) hx hb dX6_carOf_6 (by rw [c_6]; decide) (by rw [c_6]; decide) (by rw [c_6]; decide +kernel) (by decide) ?_
      refine lv_aload_n hx hb dX6_carOf_96 rfl (lv_at hl 0 rfl) ?_
      refine va_get (D := G.1) (ci := 4) (v := .ref (b + 3)) (C := RX6) (T := TX6) (N := 5) hx hb hts hin6 hown hO.1 hP.1 0 rfl rfl 1 (by decide) hf_19 (fun _ h9 => h9) rfl dX6_carOf_97 ?_
      refine va_getN (D := G.1) (ci := 2) (v := .ref ((b + 3) + 7)) (C := RX4) (T := TX4) (N := 14) hx hb hts hin4 hown hO.1 hP.2.2.1 0 rfl rfl 6 (by decide) (va_Nw.use rfl (hO.2 _ (List.mem_of_getElem? (i := 9) rfl))) (fun _ h9 => h9) rfl dX6_carOf_100 ?_
      refine lv_iload_n hx hb dX6_carOf_103 rfl (lv_at hl 1 rfl) ?_
      refine cl_pi (rS (As := [.ref ((b + 3) + 7), .int c]) (rest := []) ⟨hx, hb, hml, hown, hts⟩ (c_X6_get l G ((b + 3) + 7) 40 (sK (xN X)) c (by decide)) (va_cwS 2 hts gX6_carOf_X6_get rfl rfl rfl (by decide +kernel) ⟨Nat.le_of_ble_eq_true rfl, Nat.le_of_ble_eq_true rfl⟩) (va_P.sub hP.2.2.1 [7] rfl) hO rfl hl.1 (Nat.le_of_ble_eq_true rfl) dX6_carOf_104 ⟨Nat.le_of_ble_eq_true rfl, Nat.le_of_ble_eq_true rfl⟩) ?_
      have hE : h_X6_carOf X c w = .inr (f_X6_get 40 (sK (xN X)) c, X) := (by rw [h_X6_carOf, if_neg c_1, if_neg c_2, if_neg c_3, if_neg c_4, if_neg c_5, if_pos c_6])
      exact W.widen (k := 1) (n := 6) (Nat.le_of_ble_eq_true rfl) (Nat.le_of_ble_eq_true rfl) (vx_ret (W.iret hx hb hr (fun t ht hW => ⟨_, _, hE, rfl, by rw [ht]; exact hP, hS.F ht⟩) hS.2.2 dX6_carOf_107))
    by_cases c_7 : w = 5
    · refine lv_tableIn (off := 102) (tgt := 108) hx hb dX6_carOf_6 (by rw [c_7]; decide) (by rw [c_7]; decide) (by rw [c_7]; decide +kernel) (by decide) ?_
      refine lv_aload_n hx hb dX6_carOf_108 rfl (lv_at hl 0 rfl) ?_
      refine va_get (D := G.1) (ci := 4) (v := .ref (b + 3)) (C := RX6) (T := TX6) (N := 5) hx hb hts hin6 hown hO.1 hP.1 0 rfl rfl 1 (by decide) hf_19 (fun _ h9 => h9) rfl dX6_carOf_109 ?_
      refine va_getN (D := G.1) (ci := 2) (v := .ref ((b + 3) + 8)) (C := RX4) (T := TX4) (N := 14) hx hb hts hin4 hown hO.1 hP.2.2.1 0 rfl rfl 7 (by decide) (va_Nw.use rfl (hO.2 _ (List.mem_of_getElem? (i := 10) rfl))) (fun _ h9 => h9) rfl dX6_carOf_112 ?_
      refine lv_iload_n hx hb dX6_carOf_115 rfl (lv_at hl 1 rfl) ?_
      refine cl_pi (rS (As := [.ref ((b + 3) + 8), .int c]) (rest := []) ⟨hx, hb, hml, hown, hts⟩ (c_X6_get l G ((b + 3) + 8) 40 (sR (xN X)) c (by decide)) (va_cwS 2 hts gX6_carOf_X6_get rfl rfl rfl (by decide +kernel) ⟨Nat.le_of_ble_eq_true rfl, Nat.le_of_ble_eq_true rfl⟩) (va_P.sub hP.2.2.1 [8] rfl) hO rfl hl.1 (Nat.le_of_ble_eq_true rfl) dX6_carOf_116 ⟨Nat.le_of_ble_eq_true rfl, Nat.le_of_ble_eq_true rfl⟩) ?_
      have hE : h_X6_carOf X c w = .inr (f_X6_get 40 (sR (xN X)) c, X) := (by rw [h_X6_carOf, if_neg c_1, if_neg c_2, if_neg c_3, if_neg c_4, if_neg c_5, if_neg c_6, if_pos c_7])
      exact W.widen (k := 1) (n := 6) (Nat.le_of_ble_eq_true rfl) (Nat.le_of_ble_eq_true rfl) (vx_ret (W.iret hx hb hr (fun t ht hW => ⟨_, _, hE, rfl, by rw [ht]; exact hP, hS.F ht⟩) hS.2.2 dX6_carOf_119))
    by_cases c_8 : w = 6
    · refine lv_tableIn (off := 114) (tgt := 120) hx hb dX6_carOf_6 (by rw [c_8]; decide) (by rw [c_8]; decide) (by rw [c_8]; decide +kernel) (by decide) ?_
      refine lv_aload_n hx hb dX6_carOf_120 rfl (lv_at hl 0 rfl) ?_
      refine va_get (D := G.1) (ci := 4) (v := .ref (b + 3)) (C := RX6) (T := TX6) (N := 5) hx hb hts hin6 hown hO.1 hP.1 0 rfl rfl 1 (by decide) hf_19 (fun _ h9 => h9) rfl dX6_carOf_121 ?_
      refine lv_iload_n hx hb dX6_carOf_124 rfl (lv_at hl 1 rfl) ?_
      refine cl_pi (rVN (As := [.int c]) (rest := []) ⟨hx, hb, hml, hown, hts⟩ (c_X4_isParked l G (b + 3) (xN X) c) ⟨va_cnB 1 hts gX6_carOf_X4_isParked_n140 rfl rfl rfl (hO.2 _ (List.mem_of_getElem? (i := 48) rfl)) (hts (.initialized RX4) (by decide +kernel)) (by decide +kernel) ⟨Nat.le_of_ble_eq_true rfl, Nat.le_of_ble_eq_true rfl⟩, hts (.instanceMethod yX4_isParked) (by decide +kernel), hts (.selects RX4 yX4_isParked yX4_isParked) (by decide +kernel)⟩ (st_recv hO hP.2.2.1) hP.2.2.1 hO rfl hl.1 (Nat.le_of_ble_eq_true rfl) dX6_carOf_125 ⟨Nat.le_of_ble_eq_true rfl, Nat.le_of_ble_eq_true rfl⟩) ?_
      refine lv_if_eq (tgt := 142) hx hb dX6_carOf_128 (by decide) (fun c_9 => ?_) (fun c_9 => ?_)
      · refine lv_iconst (v := -1) hx hb dX6_carOf_142 (by decide) ?_
        have hE : h_X6_carOf X c w = .inr ((-1), X) := (by rw [h_X6_carOf, if_neg c_1, if_neg c_2, if_neg c_3, if_neg c_4, if_neg c_5, if_neg c_6, if_neg c_7, if_pos c_8, if_pos c_9])
        exact W.widen (k := 1) (n := 6) (Nat.le_of_ble_eq_true rfl) (Nat.le_of_ble_eq_true rfl) (vx_ret (W.iret hx hb hr (fun t ht hW => ⟨_, _, hE, rfl, by rw [ht]; exact hP, hS.F ht⟩) hS.2.2 dX6_carOf_143))
      · refine lv_aload_n hx hb dX6_carOf_131 rfl (lv_at hl 0 rfl) ?_
        refine va_get (D := G.1) (ci := 4) (v := .ref (b + 3)) (C := RX6) (T := TX6) (N := 5) hx hb hts hin6 hown hO.1 hP.1 0 rfl rfl 1 (by decide) hf_19 (fun _ h9 => h9) rfl dX6_carOf_132 ?_
        refine lv_iload_n hx hb dX6_carOf_135 rfl (lv_at hl 1 rfl) ?_
        refine cl_pi (rVN (As := [.int c]) (rest := []) ⟨hx, hb, hml, hown, hts⟩ (c_X4_minutesLeft l G (b + 3) (xN X) c) ⟨va_cnB 1 hts gX6_carOf_X4_minutesLeft_n143 rfl rfl rfl (hO.2 _ (List.mem_of_getElem? (i := 49) rfl)) (hts (.initialized RX4) (by decide +kernel)) (by decide +kernel) ⟨Nat.le_of_ble_eq_true rfl, Nat.le_of_ble_eq_true rfl⟩, hts (.instanceMethod yX4_minutesLeft) (by decide +kernel), hts (.selects RX4 yX4_minutesLeft yX4_minutesLeft) (by decide +kernel)⟩ (st_recv hO hP.2.2.1) hP.2.2.1 hO rfl hl.1 (Nat.le_of_ble_eq_true rfl) dX6_carOf_136 ⟨Nat.le_of_ble_eq_true rfl, Nat.le_of_ble_eq_true rfl⟩) ?_
        refine lv_goto (tgt := 143) hx hb dX6_carOf_139 (by decide) ?_
        have hE : h_X6_carOf X c w = .inr (f_X4_minutesLeft (xN X) c, X) := (by rw [h_X6_carOf, if_neg c_1, if_neg c_2, if_neg c_3, if_neg c_4, if_neg c_5, if_neg c_6, if_neg c_7, if_pos c_8, if_neg c_9])
        exact W.widen (k := 1) (n := 6) (Nat.le_of_ble_eq_true rfl) (Nat.le_of_ble_eq_true rfl) (vx_ret (W.iret hx hb hr (fun t ht hW => ⟨_, _, hE, rfl, by rw [ht]; exact hP, hS.F ht⟩) hS.2.2 dX6_carOf_143))
    refine lv_tableOut (tgt := 144) hx hb dX6_carOf_6 (tab_7 c_2 c_3 c_4 c_5 c_6 c_7 c_8) (by decide) ?_
    have hE : h_X6_carOf X c w = .inl "java/lang/IllegalArgumentException" := (by rw [h_X6_carOf, if_neg c_1, if_neg c_2, if_neg c_3, if_neg c_4, if_neg c_5, if_neg c_6, if_neg c_7, if_neg c_8])
    obtain ⟨sa, hsa⟩ := hTh.2.2.2 3 _ rfl
    exact vx_throwS (names := ["java/lang/RuntimeException", "java/lang/Exception"]) (sa := sa) hx hb hst hown (by decide +kernel) (by decide +kernel) (hts (.classLink RX6 40 "java/lang/IllegalArgumentException") (by decide +kernel)) (hts (.initialized "java/lang/IllegalArgumentException") (by decide +kernel)) hsa (vx_hat (fun w h => hts w (List.mem_cons_of_mem _ (List.mem_append_left _ (List.mem_append_right _ h)))) thr_sub44 hTh.w) thr_good44 hTh.2.1 hTh.2.2.1 hS (by rw [hml]; exact hl.1) dX6_carOf_144 dX6_carOf_147 dX6_carOf_148 dX6_carOf_150 dX6_carOf_153 (fun x hx => (hno x hx).elim) (Nat.le_of_ble_eq_true rfl) (Nat.le_of_ble_eq_true rfl) (Nat.le_of_ble_eq_true rfl) (Nat.le_of_ble_eq_true rfl) hlocks (fun t _ h1 h2 => ⟨hE, h1, fun q hq _ => h2 q hq⟩) hS.2.2 (Nat.le_of_ble_eq_true rfl) (Nat.le_of_ble_eq_true rfl)

def h_X6_at (X : Cx) (x : Int32) : String ⊕ (Int32 × Cx) :=
  if (f_X6_requireCell x) = 0 then .inl "java/lang/IndexOutOfBoundsException" else
  .inr (f_X6_get 80 (sC (xN X)) x, X)
set_option maxHeartbeats 4000000 in
set_option maxRecDepth 100000 in
theorem c_X6_at (l : Launch) (G : GG) (b : Nat) (X : Cx) (x : Int32) (hst : l.stackTraces = false) : vx_Met l yX6_at wsX6_at ({ frames := 9, cells := 1, slots := 6, locals := 140 }) (PcT G (blk b (b + 170)) [.ref b, .int x] (Cb G b X)) (QX (h_X6_at X x) (Cb G b) (blk b (b + 170))) (XX (h_X6_at X x)) 1 6 (blk b (b + 170)) := by
  refine metX (cc := cX6_at) (maxL := 2) (ret := (some .int)) (by decide) rfl ?_
  intro p e s m below meth cd hx hb hr hml hown hts hlocks hno hP hO hTh
  have hin4 : ∀ w ∈ u_ws RX4 TX4 14, w ∈ wsX6_at := by decide +kernel
  have hin6 : ∀ w ∈ u_ws RX6 TX6 5, w ∈ wsX6_at := by decide +kernel
  have hf_19 := hts (.fieldLink RX6 19 "CurbCars" "now" "LCurbCars$Street;") (by decide +kernel)
  have hA : ∀ q, (blk b (b + 170)) q → (blk b (b + 170)) q := fun _ h => h
  have hS : va_S (blk b (b + 170)) s.heap s.heap [] := va_S.rf
  have hl := lv_entry ([.ref b, .int x]) (n := 2) (Nat.le_of_ble_eq_true rfl)
  rw [lg_entry_eq]
  generalize (lg_sl ([.ref b, .int x]) ++ List.replicate (2 - (lg_sl ([.ref b, .int x])).length) Slot.unset).toArray = ls at hl ⊢
  have hl : lv_has ls 2 [(0, .ref b), (1, .int x)] := hl
  refine lv_iload_n hx hb dX6_at_0 rfl (lv_at hl 1 rfl) ?_
  by_cases c_1 : (f_X6_requireCell x) = 0
  · have hE : h_X6_at X x = .inl "java/lang/IndexOutOfBoundsException" := (by rw [h_X6_at, if_pos c_1])
    exact cl_tx (xZ (As := [.int x]) (rest := []) ⟨hx, hb, hml, hown, hts⟩ (c_X6_requireCell_t l G (blk b (b + 170)) x hst c_1) (va_cwS 1 hts gX6_at_X6_requireCell rfl rfl rfl (by decide +kernel) ⟨Nat.le_of_ble_eq_true rfl, Nat.le_of_ble_eq_true rfl⟩) trivial hO (fun U hU hW => hTh.warm hW hU) rfl hl.1 (Nat.le_of_ble_eq_true rfl) dX6_at_1 ⟨Nat.le_of_ble_eq_true rfl, Nat.le_of_ble_eq_true rfl⟩) (fun q h => h) hno hlocks (Nat.le_of_ble_eq_true rfl) (Nat.le_of_ble_eq_true rfl) (fun t h => ⟨hE, h⟩)
  · refine cl_pv (rS (As := [.int x]) (rest := []) ⟨hx, hb, hml, hown, hts⟩ (c_X6_requireCell_n l G x c_1) (va_cwS 1 hts gX6_at_X6_requireCell rfl rfl rfl (by decide +kernel) ⟨Nat.le_of_ble_eq_true rfl, Nat.le_of_ble_eq_true rfl⟩) trivial hO rfl hl.1 (Nat.le_of_ble_eq_true rfl) dX6_at_1 ⟨Nat.le_of_ble_eq_true rfl, Nat.le_of_ble_eq_true rfl⟩) ?_
    refine lv_aload_n hx hb dX6_at_4 rfl (lv_at hl 0 rfl) ?_
    refine va_get (D := G.1) (ci := 4) (v := .ref (b + 3)) (C := RX6) (T := TX6) (N := 5) hx hb hts hin6 hown hO.1 hP.1 0 rfl rfl 1 (by decide) hf_19 (fun _ h9 => h9) rfl dX6_at_5 ?_
    refine va_getN (D := G.1) (ci := 2) (v := .ref ((b + 3) + 1)) (C := RX4) (T := TX4) (N := 14) hx hb hts hin4 hown hO.1 hP.2.2.1 0 rfl rfl 0 (by decide) (va_Nw.use rfl (hO.2 _ (List.mem_of_getElem? (i := 2) rfl))) (fun _ h9 => h9) rfl dX6_at_8 ?_
    refine lv_iload_n hx hb dX6_at_11 rfl (lv_at hl 1 rfl) ?_
    refine cl_pi (rS (As := [.ref ((b + 3) + 1), .int x]) (rest := []) ⟨hx, hb, hml, hown, hts⟩ (c_X6_get l G ((b + 3) + 1) 80 (sC (xN X)) x (by decide)) (va_cwS 2 hts gX6_at_X6_get rfl rfl rfl (by decide +kernel) ⟨Nat.le_of_ble_eq_true rfl, Nat.le_of_ble_eq_true rfl⟩) (va_P.sub hP.2.2.1 [1] rfl) hO rfl hl.1 (Nat.le_of_ble_eq_true rfl) dX6_at_12 ⟨Nat.le_of_ble_eq_true rfl, Nat.le_of_ble_eq_true rfl⟩) ?_
    have hE : h_X6_at X x = .inr (f_X6_get 80 (sC (xN X)) x, X) := (by rw [h_X6_at, if_neg c_1])
    exact W.widen (k := 1) (n := 6) (Nat.le_of_ble_eq_true rfl) (Nat.le_of_ble_eq_true rfl) (vx_ret (W.iret hx hb hr (fun t ht hW => ⟨_, _, hE, rfl, by rw [ht]; exact hP, hS.F ht⟩) hS.2.2 dX6_at_15))

def h_X6_gap (X : Cx) (k : Int32) (w : Int32) : String ⊕ (Int32 × Cx) :=
  if (f_X4_gapStart (xN X) k) = (-1) then .inl "java/lang/IndexOutOfBoundsException" else
  if (f_X6_requireZeroOrOne w) = 0 then .inl "java/lang/IllegalArgumentException" else
  if w = 0 then .inr (f_X4_gapStart (xN X) k, X) else
  .inr (f_X6_get 80 (sG (xN X)) (f_X4_gapStart (xN X) k), X)
set_option maxHeartbeats 4000000 in
set_option maxRecDepth 100000 in
theorem c_X6_gap (l : Launch) (G : GG) (b : Nat) (X : Cx) (k : Int32) (w : Int32) (hst : l.stackTraces = false) : vx_Met l yX6_gap wsX6_gap ({ frames := 9, cells := 1, slots := 6, locals := 140 }) (PcT G (blk b (b + 170)) [.ref b, .int k, .int w] (Cb G b X)) (QX (h_X6_gap X k w) (Cb G b) (blk b (b + 170))) (XX (h_X6_gap X k w)) 1 6 (blk b (b + 170)) := by
  refine metX (cc := cX6_gap) (maxL := 4) (ret := (some .int)) (by decide) rfl ?_
  intro p e s m below meth cd hx hb hr hml hown hts hlocks hno hP hO hTh
  have hin4 : ∀ w ∈ u_ws RX4 TX4 14, w ∈ wsX6_gap := by decide +kernel
  have hin6 : ∀ w ∈ u_ws RX6 TX6 5, w ∈ wsX6_gap := by decide +kernel
  have hf_19 := hts (.fieldLink RX6 19 "CurbCars" "now" "LCurbCars$Street;") (by decide +kernel)
  have hA : ∀ q, (blk b (b + 170)) q → (blk b (b + 170)) q := fun _ h => h
  have hS : va_S (blk b (b + 170)) s.heap s.heap [] := va_S.rf
  have hl := lv_entry ([.ref b, .int k, .int w]) (n := 4) (Nat.le_of_ble_eq_true rfl)
  rw [lg_entry_eq]
  generalize (lg_sl ([.ref b, .int k, .int w]) ++ List.replicate (4 - (lg_sl ([.ref b, .int k, .int w])).length) Slot.unset).toArray = ls at hl ⊢
  have hl : lv_has ls 4 [(0, .ref b), (1, .int k), (2, .int w)] := hl
  refine lv_aload_n hx hb dX6_gap_0 rfl (lv_at hl 0 rfl) ?_
  refine va_get (D := G.1) (ci := 4) (v := .ref (b + 3)) (C := RX6) (T := TX6) (N := 5) hx hb hts hin6 hown hO.1 hP.1 0 rfl rfl 1 (by decide) hf_19 (fun _ h9 => h9) rfl dX6_gap_1 ?_
  refine lv_iload_n hx hb dX6_gap_4 rfl (lv_at hl 1 rfl) ?_
  refine cl_pi (rVN (As := [.int k]) (rest := []) ⟨hx, hb, hml, hown, hts⟩ (c_X4_gapStart l G (b + 3) (xN X) k) ⟨va_cnB 1 hts gX6_gap_X4_gapStart_n154 rfl rfl rfl (hO.2 _ (List.mem_of_getElem? (i := 50) rfl)) (hts (.initialized RX4) (by decide +kernel)) (by decide +kernel) ⟨Nat.le_of_ble_eq_true rfl, Nat.le_of_ble_eq_true rfl⟩, hts (.instanceMethod yX4_gapStart) (by decide +kernel), hts (.selects RX4 yX4_gapStart yX4_gapStart) (by decide +kernel)⟩ (st_recv hO hP.2.2.1) hP.2.2.1 hO rfl hl.1 (Nat.le_of_ble_eq_true rfl) dX6_gap_5 ⟨Nat.le_of_ble_eq_true rfl, Nat.le_of_ble_eq_true rfl⟩) ?_
  refine lv_istore_n (lv' := [(3, .int (f_X4_gapStart (xN X) k)), (0, .ref b), (1, .int k), (2, .int w)]) hx hb dX6_gap_8 rfl hl (by decide) rfl (fun ls hl => ?_)
  refine lv_iload_n hx hb dX6_gap_9 rfl (lv_at hl 0 rfl) ?_
  refine lv_iconst (v := -1) hx hb dX6_gap_10 (by decide) ?_
  refine lv_icmp_ne (tgt := 24) hx hb dX6_gap_11 (by decide) (fun c_1 => ?_) (fun c_1 => ?_)
  · refine lv_iload_n hx hb dX6_gap_24 rfl (lv_at hl 3 rfl) ?_
    by_cases c_2 : (f_X6_requireZeroOrOne w) = 0
    · have hE : h_X6_gap X k w = .inl "java/lang/IllegalArgumentException" := (by rw [h_X6_gap, if_neg c_1, if_pos c_2])
      exact cl_tx (xZ (As := [.int w]) (rest := []) ⟨hx, hb, hml, hown, hts⟩ (c_X6_requireZeroOrOne_t l G (blk b (b + 170)) w hst c_2) (va_cwS 1 hts gX6_gap_X6_requireZeroOrOne rfl rfl rfl (by decide +kernel) ⟨Nat.le_of_ble_eq_true rfl, Nat.le_of_ble_eq_true rfl⟩) trivial hO (fun U hU hW => hTh.warm hW hU) rfl hl.1 (Nat.le_of_ble_eq_true rfl) dX6_gap_25 ⟨Nat.le_of_ble_eq_true rfl, Nat.le_of_ble_eq_true rfl⟩) (fun q h => h) hno hlocks (Nat.le_of_ble_eq_true rfl) (Nat.le_of_ble_eq_true rfl) (fun t h => ⟨hE, h⟩)
    · refine cl_pv (rS (As := [.int w]) (rest := []) ⟨hx, hb, hml, hown, hts⟩ (c_X6_requireZeroOrOne_n l G w c_2) (va_cwS 1 hts gX6_gap_X6_requireZeroOrOne rfl rfl rfl (by decide +kernel) ⟨Nat.le_of_ble_eq_true rfl, Nat.le_of_ble_eq_true rfl⟩) trivial hO rfl hl.1 (Nat.le_of_ble_eq_true rfl) dX6_gap_25 ⟨Nat.le_of_ble_eq_true rfl, Nat.le_of_ble_eq_true rfl⟩) ?_
      refine lv_iload_n hx hb dX6_gap_28 rfl (lv_at hl 3 rfl) ?_
      refine lv_if_ne (tgt := 36) hx hb dX6_gap_29 (by decide) (fun c_3 => ?_) (fun c_3 => ?_)
      · refine lv_aload_n hx hb dX6_gap_36 rfl (lv_at hl 1 rfl) ?_
        refine va_get (D := G.1) (ci := 4) (v := .ref (b + 3)) (C := RX6) (T := TX6) (N := 5) hx hb hts hin6 hown hO.1 hP.1 0 rfl rfl 1 (by decide) hf_19 (fun _ h9 => h9) rfl dX6_gap_37 ?_
        refine va_getN (D := G.1) (ci := 2) (v := .ref ((b + 3) + 2)) (C := RX4) (T := TX4) (N := 14) hx hb hts hin4 hown hO.1 hP.2.2.1 0 rfl rfl 1 (by decide) (va_Nw.use rfl (hO.2 _ (List.mem_of_getElem? (i := 3) rfl))) (fun _ h9 => h9) rfl dX6_gap_40 ?_
        refine lv_iload_n hx hb dX6_gap_43 rfl (lv_at hl 0 rfl) ?_
        refine cl_pi (rS (As := [.ref ((b + 3) + 2), .int (f_X4_gapStart (xN X) k)]) (rest := []) ⟨hx, hb, hml, hown, hts⟩ (c_X6_get l G ((b + 3) + 2) 80 (sG (xN X)) (f_X4_gapStart (xN X) k) (by decide)) (va_cwS 2 hts gX6_gap_X6_get rfl rfl rfl (by decide +kernel) ⟨Nat.le_of_ble_eq_true rfl, Nat.le_of_ble_eq_true rfl⟩) (va_P.sub hP.2.2.1 [2] rfl) hO rfl hl.1 (Nat.le_of_ble_eq_true rfl) dX6_gap_44 ⟨Nat.le_of_ble_eq_true rfl, Nat.le_of_ble_eq_true rfl⟩) ?_
        have hE : h_X6_gap X k w = .inr (f_X6_get 80 (sG (xN X)) (f_X4_gapStart (xN X) k), X) := (by rw [h_X6_gap, if_neg c_1, if_neg c_2, if_neg c_3])
        exact W.widen (k := 1) (n := 6) (Nat.le_of_ble_eq_true rfl) (Nat.le_of_ble_eq_true rfl) (vx_ret (W.iret hx hb hr (fun t ht hW => ⟨_, _, hE, rfl, by rw [ht]; exact hP, hS.F ht⟩) hS.2.2 dX6_gap_47))
      · refine lv_iload_n hx hb dX6_gap_32 rfl (lv_at hl 0 rfl) ?_
        refine lv_goto (tgt := 47) hx hb dX6_gap_33 (by decide) ?_
        have hE : h_X6_gap X k w = .inr (f_X4_gapStart (xN X) k, X) := (by rw [h_X6_gap, if_neg c_1, if_neg c_2, if_pos c_3])
        exact W.widen (k := 1) (n := 6) (Nat.le_of_ble_eq_true rfl) (Nat.le_of_ble_eq_true rfl) (vx_ret (W.iret hx hb hr (fun t ht hW => ⟨_, _, hE, rfl, by rw [ht]; exact hP, hS.F ht⟩) hS.2.2 dX6_gap_47))
  · have hE : h_X6_gap X k w = .inl "java/lang/IndexOutOfBoundsException" := (by rw [h_X6_gap, if_pos c_1])
    obtain ⟨sa, hsa⟩ := hTh.2.2.2 6 _ rfl
    exact vx_throwS (names := ["java/lang/RuntimeException", "java/lang/Exception"]) (sa := sa) hx hb hst hown (by decide +kernel) (by decide +kernel) (hts (.classLink RX6 157 "java/lang/IndexOutOfBoundsException") (by decide +kernel)) (hts (.initialized "java/lang/IndexOutOfBoundsException") (by decide +kernel)) hsa (vx_hat (fun w h => hts w (List.mem_cons_of_mem _ (List.mem_append_left _ (List.mem_append_right _ h)))) thr_sub161 hTh.w) thr_good161 hTh.2.1 hTh.2.2.1 hS (by rw [hml]; exact hl.1) dX6_gap_14 dX6_gap_17 dX6_gap_18 dX6_gap_20 dX6_gap_23 (fun x hx => (hno x hx).elim) (Nat.le_of_ble_eq_true rfl) (Nat.le_of_ble_eq_true rfl) (Nat.le_of_ble_eq_true rfl) (Nat.le_of_ble_eq_true rfl) hlocks (fun t _ h1 h2 => ⟨hE, h1, fun q hq _ => h2 q hq⟩) hS.2.2 (Nat.le_of_ble_eq_true rfl) (Nat.le_of_ble_eq_true rfl)

def h_X6_setting (X : Cx) (w : Int32) : String ⊕ (Int32 × Cx) :=
  if (f_X4_settingOf (xN X) w) = (-1) then .inl "java/lang/IllegalArgumentException" else
  .inr (f_X4_settingOf (xN X) w, X)
set_option maxHeartbeats 4000000 in
set_option maxRecDepth 100000 in
theorem c_X6_setting (l : Launch) (G : GG) (b : Nat) (X : Cx) (w : Int32) (hst : l.stackTraces = false) : vx_Met l yX6_setting wsX6_setting ({ frames := 8, cells := 1, slots := 6, locals := 120 }) (PcT G (blk b (b + 170)) [.ref b, .int w] (Cb G b X)) (QX (h_X6_setting X w) (Cb G b) (blk b (b + 170))) (XX (h_X6_setting X w)) 1 6 (blk b (b + 170)) := by
  refine metX (cc := cX6_setting) (maxL := 3) (ret := (some .int)) (by decide) rfl ?_
  intro p e s m below meth cd hx hb hr hml hown hts hlocks hno hP hO hTh
  have hin6 : ∀ w ∈ u_ws RX6 TX6 5, w ∈ wsX6_setting := by decide +kernel
  have hf_19 := hts (.fieldLink RX6 19 "CurbCars" "now" "LCurbCars$Street;") (by decide +kernel)
  have hA : ∀ q, (blk b (b + 170)) q → (blk b (b + 170)) q := fun _ h => h
  have hS : va_S (blk b (b + 170)) s.heap s.heap [] := va_S.rf
  have hl := lv_entry ([.ref b, .int w]) (n := 3) (Nat.le_of_ble_eq_true rfl)
  rw [lg_entry_eq]
  generalize (lg_sl ([.ref b, .int w]) ++ List.replicate (3 - (lg_sl ([.ref b, .int w])).length) Slot.unset).toArray = ls at hl ⊢
  have hl : lv_has ls 3 [(0, .ref b), (1, .int w)] := hl
  refine lv_aload_n hx hb dX6_setting_0 rfl (lv_at hl 0 rfl) ?_
  refine va_get (D := G.1) (ci := 4) (v := .ref (b + 3)) (C := RX6) (T := TX6) (N := 5) hx hb hts hin6 hown hO.1 hP.1 0 rfl rfl 1 (by decide) hf_19 (fun _ h9 => h9) rfl dX6_setting_1 ?_
  refine lv_iload_n hx hb dX6_setting_4 rfl (lv_at hl 1 rfl) ?_
  refine cl_pi (rVN (As := [.int w]) (rest := []) ⟨hx, hb, hml, hown, hts⟩ (c_X4_settingOf l G (b + 3) (xN X) w) ⟨va_cnB 1 hts gX6_setting_X4_settingOf_n168 rfl rfl rfl (hO.2 _ (List.mem_of_getElem? (i := 51) rfl)) (hts (.initialized RX4) (by decide +kernel)) (by decide +kernel) ⟨Nat.le_of_ble_eq_true rfl, Nat.le_of_ble_eq_true rfl⟩, hts (.instanceMethod yX4_settingOf) (by decide +kernel), hts (.selects RX4 yX4_settingOf yX4_settingOf) (by decide +kernel)⟩ (st_recv hO hP.2.2.1) hP.2.2.1 hO rfl hl.1 (Nat.le_of_ble_eq_true rfl) dX6_setting_5 ⟨Nat.le_of_ble_eq_true rfl, Nat.le_of_ble_eq_true rfl⟩) ?_
  refine lv_istore_n (lv' := [(2, .int (f_X4_settingOf (xN X) w)), (0, .ref b), (1, .int w)]) hx hb dX6_setting_8 rfl hl (by decide) rfl (fun ls hl => ?_)
  refine lv_iload_n hx hb dX6_setting_9 rfl (lv_at hl 0 rfl) ?_
  refine lv_iconst (v := -1) hx hb dX6_setting_10 (by decide) ?_
  refine lv_icmp_ne (tgt := 24) hx hb dX6_setting_11 (by decide) (fun c_1 => ?_) (fun c_1 => ?_)
  · refine lv_iload_n hx hb dX6_setting_24 rfl (lv_at hl 0 rfl) ?_
    have hE : h_X6_setting X w = .inr (f_X4_settingOf (xN X) w, X) := (by rw [h_X6_setting, if_neg c_1])
    exact W.widen (k := 1) (n := 6) (Nat.le_of_ble_eq_true rfl) (Nat.le_of_ble_eq_true rfl) (vx_ret (W.iret hx hb hr (fun t ht hW => ⟨_, _, hE, rfl, by rw [ht]; exact hP, hS.F ht⟩) hS.2.2 dX6_setting_25))
  · have hE : h_X6_setting X w = .inl "java/lang/IllegalArgumentException" := (by rw [h_X6_setting, if_pos c_1])
    obtain ⟨sa, hsa⟩ := hTh.2.2.2 21 _ rfl
    exact vx_throwS (names := ["java/lang/RuntimeException", "java/lang/Exception"]) (sa := sa) hx hb hst hown (by decide +kernel) (by decide +kernel) (hts (.classLink RX6 40 "java/lang/IllegalArgumentException") (by decide +kernel)) (hts (.initialized "java/lang/IllegalArgumentException") (by decide +kernel)) hsa (vx_hat (fun w h => hts w (List.mem_cons_of_mem _ (List.mem_append_right _ h))) thr_sub44 hTh.w) thr_good44 hTh.2.1 hTh.2.2.1 hS (by rw [hml]; exact hl.1) dX6_setting_14 dX6_setting_17 dX6_setting_18 dX6_setting_20 dX6_setting_23 (fun x hx => (hno x hx).elim) (Nat.le_of_ble_eq_true rfl) (Nat.le_of_ble_eq_true rfl) (Nat.le_of_ble_eq_true rfl) (Nat.le_of_ble_eq_true rfl) hlocks (fun t _ h1 h2 => ⟨hE, h1, fun q hq _ => h2 q hq⟩) hS.2.2 (Nat.le_of_ble_eq_true rfl) (Nat.le_of_ble_eq_true rfl)
