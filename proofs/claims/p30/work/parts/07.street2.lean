def h_X4_tryToPark (S : St) (c : Int32) : Int32 × St :=
  if (f_X4_chosenPlace S (f_X6_get 40 (sL S) c)) = (-1) then (0, S) else
  (1, (pT (pP (h_X4_occupy (h_X4_useChance S) (f_X4_chosenPlace S (f_X6_get 40 (sL S) c)) (f_X6_get 40 (sL S) c) c) c (f_X4_chosenPlace S (f_X6_get 40 (sL S) c))) c 0))
set_option maxHeartbeats 4000000 in
set_option maxRecDepth 100000 in
theorem c_X4_tryToPark (l : Launch) (G : GG) (a : Nat) (S : St) (c : Int32) : Met l yX4_tryToPark wsX4_tryToPark ({ frames := 2, cells := 0, slots := 0, locals := 48 }) (PcH G [.ref a, .int c] (Str G a S)) (QM (some (.int ((h_X4_tryToPark S c).1))) (Str G a ((h_X4_tryToPark S c).2)) (blk a (a + 9))) 0 0 (blk a (a + 9)) := by
  refine metH (cc := cX4_tryToPark) (maxL := 4) (ret := (some .boolean)) (by decide) rfl ?_
  intro p e s m below meth cd hx hb hr hml hown hts hlocks hP hO
  have hin4 : ∀ w ∈ u_ws RX4 TX4 14, w ∈ wsX4_tryToPark := by decide +kernel
  have hf_18 := hts (.fieldLink RX4 18 "CurbCars$Street" "lengths" "[I") (by decide +kernel)
  have hf_24 := hts (.fieldLink RX4 24 "CurbCars$Street" "states" "[I") (by decide +kernel)
  have hf_27 := hts (.fieldLink RX4 27 "CurbCars$Street" "places" "[I") (by decide +kernel)
  have hA : ∀ q, (blk a (a + 9)) q → (blk a (a + 9)) q := fun _ h => h
  have hS : va_S (blk a (a + 9)) s.heap s.heap [] := va_S.rf
  have hl := lv_entry ([.ref a, .int c]) (n := 4) (Nat.le_of_ble_eq_true rfl)
  rw [lg_entry_eq]
  generalize (lg_sl ([.ref a, .int c]) ++ List.replicate (4 - (lg_sl ([.ref a, .int c])).length) Slot.unset).toArray = ls at hl ⊢
  have hl : lv_has ls 4 [(0, .ref a), (1, .int c)] := hl
  refine lv_aload_n hx hb dX4_tryToPark_0 rfl (lv_at hl 0 rfl) ?_
  refine va_get (D := G.1) (ci := 2) (v := .ref (a + 3)) (C := RX4) (T := TX4) (N := 14) hx hb hts hin4 hown hO.1 hP 0 rfl rfl 2 (by decide) hf_18 (fun _ h9 => h9) rfl dX4_tryToPark_1 ?_
  refine lv_iload_n hx hb dX4_tryToPark_4 rfl (lv_at hl 1 rfl) ?_
  refine cl_pi (rSN (As := [.ref (a + 3), .int c]) (rest := []) ⟨hx, hb, hml, hown, hts⟩ (c_X6_get l G (a + 3) 40 (sL S) c (by decide)) ⟨va_cnB 2 hts gX4_tryToPark_X6_get_n84 rfl rfl rfl (hO.2 _ (List.mem_of_getElem? (i := 29) rfl)) (hts (.initialized RX6) (by decide +kernel)) (by decide +kernel) ⟨Nat.le_of_ble_eq_true rfl, Nat.le_of_ble_eq_true rfl⟩, hts (.static yX6_get) (by decide +kernel), trivial⟩ (va_P.sub hP [3] rfl) hO rfl hl.1 (Nat.le_of_ble_eq_true rfl) dX4_tryToPark_5 ⟨Nat.le_of_ble_eq_true rfl, Nat.le_of_ble_eq_true rfl⟩) ?_
  refine lv_istore_n (lv' := [(2, .int (f_X6_get 40 (sL S) c)), (0, .ref a), (1, .int c)]) hx hb dX4_tryToPark_8 rfl hl (by decide) rfl (fun ls hl => ?_)
  refine lv_aload_n hx hb dX4_tryToPark_9 rfl (lv_at hl 1 rfl) ?_
  refine lv_iload_n hx hb dX4_tryToPark_10 rfl (lv_at hl 0 rfl) ?_
  refine cl_pi (rV (As := [.int (f_X6_get 40 (sL S) c)]) (rest := []) ⟨hx, hb, hml, hown, hts⟩ (c_X4_chosenPlace l G a S (f_X6_get 40 (sL S) c)) (cwV 1 hts gX4_tryToPark_X4_chosenPlace rfl rfl rfl (by decide +kernel) ⟨Nat.le_of_ble_eq_true rfl, Nat.le_of_ble_eq_true rfl⟩) (st_recv hO hP) hP hO rfl hl.1 (Nat.le_of_ble_eq_true rfl) dX4_tryToPark_11 ⟨Nat.le_of_ble_eq_true rfl, Nat.le_of_ble_eq_true rfl⟩) ?_
  refine lv_istore_n (lv' := [(3, .int (f_X4_chosenPlace S (f_X6_get 40 (sL S) c))), (2, .int (f_X6_get 40 (sL S) c)), (0, .ref a), (1, .int c)]) hx hb dX4_tryToPark_14 rfl hl (by decide) rfl (fun ls hl => ?_)
  refine lv_iload_n hx hb dX4_tryToPark_15 rfl (lv_at hl 0 rfl) ?_
  refine lv_iconst (v := -1) hx hb dX4_tryToPark_16 (by decide) ?_
  refine lv_icmp_ne (tgt := 22) hx hb dX4_tryToPark_17 (by decide) (fun c_1 => ?_) (fun c_1 => ?_)
  · refine lv_aload_n hx hb dX4_tryToPark_22 rfl (lv_at hl 2 rfl) ?_
    refine cl_mv (rV (As := []) (rest := []) ⟨hx, hb, hml, hown, hts⟩ (c_X4_useChance l G a S) (cwV 0 hts gX4_tryToPark_X4_useChance rfl rfl rfl (by decide +kernel) ⟨Nat.le_of_ble_eq_true rfl, Nat.le_of_ble_eq_true rfl⟩) (st_recv hO hP) hP hO rfl hl.1 (Nat.le_of_ble_eq_true rfl) dX4_tryToPark_23 ⟨Nat.le_of_ble_eq_true rfl, Nat.le_of_ble_eq_true rfl⟩) hS hA (fun H locs hP1 hz hk hS => ?_)
    have hP : Str G a (h_X4_useChance S) H := hP1
    refine lv_aload_n hx hb dX4_tryToPark_26 rfl (lv_at hl 2 rfl) ?_
    refine lv_iload_n hx hb dX4_tryToPark_27 rfl (lv_at hl 0 rfl) ?_
    refine lv_iload_n hx hb dX4_tryToPark_28 rfl (lv_at hl 1 rfl) ?_
    refine lv_iload_n hx hb dX4_tryToPark_29 rfl (lv_at hl 3 rfl) ?_
    refine cl_mv (rV (As := [.int (f_X4_chosenPlace S (f_X6_get 40 (sL S) c)), .int (f_X6_get 40 (sL S) c), .int c]) (rest := []) ⟨hx, hb, hml, hown, hts⟩ (c_X4_occupy l G a (h_X4_useChance S) (f_X4_chosenPlace S (f_X6_get 40 (sL S) c)) (f_X6_get 40 (sL S) c) c) (cwV 3 hts gX4_tryToPark_X4_occupy rfl rfl rfl (by decide +kernel) ⟨Nat.le_of_ble_eq_true rfl, Nat.le_of_ble_eq_true rfl⟩) (st_recv hO hP) hP hO rfl hl.1 (Nat.le_of_ble_eq_true rfl) dX4_tryToPark_30 ⟨Nat.le_of_ble_eq_true rfl, Nat.le_of_ble_eq_true rfl⟩) hS hA (fun H locs hP1 hz hk hS => ?_)
    have hP : Str G a (h_X4_occupy (h_X4_useChance S) (f_X4_chosenPlace S (f_X6_get 40 (sL S) c)) (f_X6_get 40 (sL S) c) c) H := hP1
    refine lv_aload_n hx hb dX4_tryToPark_33 rfl (lv_at hl 2 rfl) ?_
    refine va_get (D := G.1) (ci := 2) (v := .ref (a + 6)) (C := RX4) (T := TX4) (N := 14) hx hb hts hin4 hown hO.1 hP 0 rfl rfl 5 (by decide) hf_27 (fun _ h9 => h9) rfl dX4_tryToPark_34 ?_
    refine lv_iload_n hx hb dX4_tryToPark_37 rfl (lv_at hl 3 rfl) ?_
    refine lv_iload_n hx hb dX4_tryToPark_38 rfl (lv_at hl 0 rfl) ?_
    refine cl_mv (rSN (As := [.ref (a + 6), .int c, .int (f_X4_chosenPlace S (f_X6_get 40 (sL S) c))]) (rest := []) ⟨hx, hb, hml, hown, hts⟩ (c_X6_put l G (a + 6) 40 (sP (h_X4_occupy (h_X4_useChance S) (f_X4_chosenPlace S (f_X6_get 40 (sL S) c)) (f_X6_get 40 (sL S) c) c)) c (f_X4_chosenPlace S (f_X6_get 40 (sL S) c)) (by decide)) ⟨va_cnB 3 hts gX4_tryToPark_X6_put_n88 rfl rfl rfl (hO.2 _ (List.mem_of_getElem? (i := 30) rfl)) (hts (.initialized RX6) (by decide +kernel)) (by decide +kernel) ⟨Nat.le_of_ble_eq_true rfl, Nat.le_of_ble_eq_true rfl⟩, hts (.static yX6_put) (by decide +kernel), trivial⟩ (va_P.sub hP [6] rfl) hO rfl hl.1 (Nat.le_of_ble_eq_true rfl) dX4_tryToPark_39 ⟨Nat.le_of_ble_eq_true rfl, Nat.le_of_ble_eq_true rfl⟩) hS (fun q h => hA q (by simp only [one, blk] at *; omega)) (fun H locs hP1 hz hk hS => ?_)
    have hP : Str G a (pP (h_X4_occupy (h_X4_useChance S) (f_X4_chosenPlace S (f_X6_get 40 (sL S) c)) (f_X6_get 40 (sL S) c) c) c (f_X4_chosenPlace S (f_X6_get 40 (sL S) c))) H := st_pP (st_row 6 hP rfl hP1 hk)
    refine lv_aload_n hx hb dX4_tryToPark_42 rfl (lv_at hl 2 rfl) ?_
    refine va_get (D := G.1) (ci := 2) (v := .ref (a + 5)) (C := RX4) (T := TX4) (N := 14) hx hb hts hin4 hown hO.1 hP 0 rfl rfl 4 (by decide) hf_24 (fun _ h9 => h9) rfl dX4_tryToPark_43 ?_
    refine lv_iload_n hx hb dX4_tryToPark_46 rfl (lv_at hl 3 rfl) ?_
    refine lv_iconst (v := 0) hx hb dX4_tryToPark_47 (by decide) ?_
    refine cl_mv (rSN (As := [.ref (a + 5), .int c, .int 0]) (rest := []) ⟨hx, hb, hml, hown, hts⟩ (c_X6_put l G (a + 5) 40 (sT (pP (h_X4_occupy (h_X4_useChance S) (f_X4_chosenPlace S (f_X6_get 40 (sL S) c)) (f_X6_get 40 (sL S) c) c) c (f_X4_chosenPlace S (f_X6_get 40 (sL S) c)))) c 0 (by decide)) ⟨va_cnB 3 hts gX4_tryToPark_X6_put_n88 rfl rfl rfl (hO.2 _ (List.mem_of_getElem? (i := 30) rfl)) (hts (.initialized RX6) (by decide +kernel)) (by decide +kernel) ⟨Nat.le_of_ble_eq_true rfl, Nat.le_of_ble_eq_true rfl⟩, hts (.static yX6_put) (by decide +kernel), trivial⟩ (va_P.sub hP [5] rfl) hO rfl hl.1 (Nat.le_of_ble_eq_true rfl) dX4_tryToPark_48 ⟨Nat.le_of_ble_eq_true rfl, Nat.le_of_ble_eq_true rfl⟩) hS (fun q h => hA q (by simp only [one, blk] at *; omega)) (fun H locs hP1 hz hk hS => ?_)
    have hP : Str G a (pT (pP (h_X4_occupy (h_X4_useChance S) (f_X4_chosenPlace S (f_X6_get 40 (sL S) c)) (f_X6_get 40 (sL S) c) c) c (f_X4_chosenPlace S (f_X6_get 40 (sL S) c))) c 0) H := st_pT (st_row 5 hP rfl hP1 hk)
    refine lv_iconst (v := 1) hx hb dX4_tryToPark_51 (by decide) ?_
    have hE : h_X4_tryToPark S c = (1, (pT (pP (h_X4_occupy (h_X4_useChance S) (f_X4_chosenPlace S (f_X6_get 40 (sL S) c)) (f_X6_get 40 (sL S) c) c) c (f_X4_chosenPlace S (f_X6_get 40 (sL S) c))) c 0)) := (by rw [h_X4_tryToPark, if_neg c_1])
    have hE2 := snd_of hE
    exact W.zret (ty := .boolean) hx hb hr rfl (fun t ht hW => ⟨by rw [fst_of hE], by rw [ht, hE2]; exact hP, hS.F ht⟩) hS.2.2 dX4_tryToPark_52
  · refine lv_iconst (v := 0) hx hb dX4_tryToPark_20 (by decide) ?_
    have hE : h_X4_tryToPark S c = (0, S) := (by rw [h_X4_tryToPark, if_pos c_1])
    have hE2 := snd_of hE
    exact W.zret (ty := .boolean) hx hb hr rfl (fun t ht hW => ⟨by rw [fst_of hE], by rw [ht, hE2]; exact hP, hS.F ht⟩) hS.2.2 dX4_tryToPark_21

def h_X4_arrive (S : St) (len : Int32) (stay : Int32) : Int32 × St :=
  if (f_X6_isLength len) = 0 then ((-1), S) else
  if (f_X6_isStay stay) = 0 then ((-1), S) else
  if (f_X4_allCame S) = 0 then (sN S, (h_X4_tryToPark (pR (pK (pP (pT (pY (pL (wN S ((sN S) + 1)) (sN S) len) (sN S) stay) (sN S) 1) (sN S) (-1)) (sN S) 0) (sN S) 0) (sN S)).2) else
  ((-1), S)
set_option maxHeartbeats 4000000 in
set_option maxRecDepth 100000 in
theorem c_X4_arrive (l : Launch) (G : GG) (a : Nat) (S : St) (len : Int32) (stay : Int32) : Met l yX4_arrive wsX4_arrive ({ frames := 3, cells := 0, slots := 0, locals := 71 }) (PcH G [.ref a, .int len, .int stay] (Str G a S)) (QM (some (.int ((h_X4_arrive S len stay).1))) (Str G a ((h_X4_arrive S len stay).2)) (blk a (a + 9))) 0 0 (blk a (a + 9)) := by
  refine metH (cc := cX4_arrive) (maxL := 4) (ret := (some .int)) (by decide) rfl ?_
  intro p e s m below meth cd hx hb hr hml hown hts hlocks hP hO
  have hin4 : ∀ w ∈ u_ws RX4 TX4 14, w ∈ wsX4_arrive := by decide +kernel
  have hf_18 := hts (.fieldLink RX4 18 "CurbCars$Street" "lengths" "[I") (by decide +kernel)
  have hf_21 := hts (.fieldLink RX4 21 "CurbCars$Street" "stays" "[I") (by decide +kernel)
  have hf_24 := hts (.fieldLink RX4 24 "CurbCars$Street" "states" "[I") (by decide +kernel)
  have hf_27 := hts (.fieldLink RX4 27 "CurbCars$Street" "places" "[I") (by decide +kernel)
  have hf_30 := hts (.fieldLink RX4 30 "CurbCars$Street" "parkedMinutes" "[I") (by decide +kernel)
  have hf_33 := hts (.fieldLink RX4 33 "CurbCars$Street" "roundMinutes" "[I") (by decide +kernel)
  have hf_48 := hts (.fieldLink RX4 48 "CurbCars$Street" "came" "I") (by decide +kernel)
  have hA : ∀ q, (blk a (a + 9)) q → (blk a (a + 9)) q := fun _ h => h
  have hS : va_S (blk a (a + 9)) s.heap s.heap [] := va_S.rf
  have hl := lv_entry ([.ref a, .int len, .int stay]) (n := 4) (Nat.le_of_ble_eq_true rfl)
  rw [lg_entry_eq]
  generalize (lg_sl ([.ref a, .int len, .int stay]) ++ List.replicate (4 - (lg_sl ([.ref a, .int len, .int stay])).length) Slot.unset).toArray = ls at hl ⊢
  have hl : lv_has ls 4 [(0, .ref a), (1, .int len), (2, .int stay)] := hl
  refine lv_iload_n hx hb dX4_arrive_0 rfl (lv_at hl 1 rfl) ?_
  refine cl_pi (rSN (As := [.int len]) (rest := []) ⟨hx, hb, hml, hown, hts⟩ (c_X6_isLength l G len) ⟨va_cnB 1 hts gX4_arrive_X6_isLength_n113 rfl rfl rfl (hO.2 _ (List.mem_of_getElem? (i := 32) rfl)) (hts (.initialized RX6) (by decide +kernel)) (by decide +kernel) ⟨Nat.le_of_ble_eq_true rfl, Nat.le_of_ble_eq_true rfl⟩, hts (.static yX6_isLength) (by decide +kernel), trivial⟩ trivial hO rfl hl.1 (Nat.le_of_ble_eq_true rfl) dX4_arrive_1 ⟨Nat.le_of_ble_eq_true rfl, Nat.le_of_ble_eq_true rfl⟩) ?_
  refine lv_if_eq (tgt := 21) hx hb dX4_arrive_4 (by decide) (fun c_1 => ?_) (fun c_1 => ?_)
  · refine lv_iconst (v := -1) hx hb dX4_arrive_21 (by decide) ?_
    have hE : h_X4_arrive S len stay = ((-1), S) := (by rw [h_X4_arrive, if_pos c_1])
    have hE2 := snd_of hE
    exact W.iret hx hb hr (fun t ht hW => ⟨by rw [fst_of hE], by rw [ht, hE2]; exact hP, hS.F ht⟩) hS.2.2 dX4_arrive_22
  · refine lv_iload_n hx hb dX4_arrive_7 rfl (lv_at hl 2 rfl) ?_
    refine cl_pi (rSN (As := [.int stay]) (rest := []) ⟨hx, hb, hml, hown, hts⟩ (c_X6_isStay l G stay) ⟨va_cnB 1 hts gX4_arrive_X6_isStay_n116 rfl rfl rfl (hO.2 _ (List.mem_of_getElem? (i := 33) rfl)) (hts (.initialized RX6) (by decide +kernel)) (by decide +kernel) ⟨Nat.le_of_ble_eq_true rfl, Nat.le_of_ble_eq_true rfl⟩, hts (.static yX6_isStay) (by decide +kernel), trivial⟩ trivial hO rfl hl.1 (Nat.le_of_ble_eq_true rfl) dX4_arrive_8 ⟨Nat.le_of_ble_eq_true rfl, Nat.le_of_ble_eq_true rfl⟩) ?_
    refine lv_if_eq (tgt := 21) hx hb dX4_arrive_11 (by decide) (fun c_2 => ?_) (fun c_2 => ?_)
    · refine lv_iconst (v := -1) hx hb dX4_arrive_21 (by decide) ?_
      have hE : h_X4_arrive S len stay = ((-1), S) := (by rw [h_X4_arrive, if_neg c_1, if_pos c_2])
      have hE2 := snd_of hE
      exact W.iret hx hb hr (fun t ht hW => ⟨by rw [fst_of hE], by rw [ht, hE2]; exact hP, hS.F ht⟩) hS.2.2 dX4_arrive_22
    · refine lv_aload_n hx hb dX4_arrive_14 rfl (lv_at hl 0 rfl) ?_
      refine cl_pi (rV (As := []) (rest := []) ⟨hx, hb, hml, hown, hts⟩ (c_X4_allCame l G a S) (cwV 0 hts gX4_arrive_X4_allCame rfl rfl rfl (by decide +kernel) ⟨Nat.le_of_ble_eq_true rfl, Nat.le_of_ble_eq_true rfl⟩) (st_recv hO hP) hP hO rfl hl.1 (Nat.le_of_ble_eq_true rfl) dX4_arrive_15 ⟨Nat.le_of_ble_eq_true rfl, Nat.le_of_ble_eq_true rfl⟩) ?_
      refine lv_if_eq (tgt := 23) hx hb dX4_arrive_18 (by decide) (fun c_3 => ?_) (fun c_3 => ?_)
      · refine lv_aload_n hx hb dX4_arrive_23 rfl (lv_at hl 0 rfl) ?_
        refine va_get (D := G.1) (ci := 2) (v := .int (sN S)) (C := RX4) (T := TX4) (N := 14) hx hb hts hin4 hown hO.1 hP 0 rfl rfl 8 (by decide) hf_48 (fun _ h9 => h9) rfl dX4_arrive_24 ?_
        refine lv_istore_n (lv' := [(3, .int (sN S)), (0, .ref a), (1, .int len), (2, .int stay)]) hx hb dX4_arrive_27 rfl hl (by decide) rfl (fun ls hl => ?_)
        refine lv_aload_n hx hb dX4_arrive_28 rfl (lv_at hl 1 rfl) ?_
        refine lv_dup hx hb dX4_arrive_29 rfl ?_
        refine va_get (D := G.1) (ci := 2) (v := .int (sN S)) (C := RX4) (T := TX4) (N := 14) hx hb hts hin4 hown hO.1 hP 0 rfl rfl 8 (by decide) hf_48 (fun _ h9 => h9) rfl dX4_arrive_30 ?_
        refine lv_iconst (v := 1) hx hb dX4_arrive_33 (by decide) ?_
        refine lv_iadd hx hb dX4_arrive_34 ?_
        refine va_put (D := G.1) (ci := 2) (v := .int ((sN S) + 1)) (ty := .int) (C := RX4) (T := TX4) (N := 14) hx hb hts hin4 tyX4 tyX4_ok nmX4 hown hO.1 hP (st_D a S hA) hS 0 rfl rfl 8 (by decide) hf_48 (fun _ h9 => h9) rfl (by decide +kernel) rfl rfl (Nat.le_of_ble_eq_true rfl) dX4_arrive_35 (fun H locs hP hD hS => ?_)
        have hP : Str G a (wN S ((sN S) + 1)) H := st_pN hP
        refine lv_aload_n hx hb dX4_arrive_38 rfl (lv_at hl 1 rfl) ?_
        refine va_get (D := G.1) (ci := 2) (v := .ref (a + 3)) (C := RX4) (T := TX4) (N := 14) hx hb hts hin4 hown hO.1 hP 0 rfl rfl 2 (by decide) hf_18 (fun _ h9 => h9) rfl dX4_arrive_39 ?_
        refine lv_iload_n hx hb dX4_arrive_42 rfl (lv_at hl 0 rfl) ?_
        refine lv_iload_n hx hb dX4_arrive_43 rfl (lv_at hl 2 rfl) ?_
        refine cl_mv (rSN (As := [.ref (a + 3), .int (sN S), .int len]) (rest := []) ⟨hx, hb, hml, hown, hts⟩ (c_X6_put l G (a + 3) 40 (sL (wN S ((sN S) + 1))) (sN S) len (by decide)) ⟨va_cnB 3 hts gX4_arrive_X6_put_n88 rfl rfl rfl (hO.2 _ (List.mem_of_getElem? (i := 30) rfl)) (hts (.initialized RX6) (by decide +kernel)) (by decide +kernel) ⟨Nat.le_of_ble_eq_true rfl, Nat.le_of_ble_eq_true rfl⟩, hts (.static yX6_put) (by decide +kernel), trivial⟩ (va_P.sub hP [3] rfl) hO rfl hl.1 (Nat.le_of_ble_eq_true rfl) dX4_arrive_44 ⟨Nat.le_of_ble_eq_true rfl, Nat.le_of_ble_eq_true rfl⟩) hS (fun q h => hA q (by simp only [one, blk] at *; omega)) (fun H locs hP1 hz hk hS => ?_)
        have hP : Str G a (pL (wN S ((sN S) + 1)) (sN S) len) H := st_pL (st_row 3 hP rfl hP1 hk)
        refine lv_aload_n hx hb dX4_arrive_47 rfl (lv_at hl 1 rfl) ?_
        refine va_get (D := G.1) (ci := 2) (v := .ref (a + 4)) (C := RX4) (T := TX4) (N := 14) hx hb hts hin4 hown hO.1 hP 0 rfl rfl 3 (by decide) hf_21 (fun _ h9 => h9) rfl dX4_arrive_48 ?_
        refine lv_iload_n hx hb dX4_arrive_51 rfl (lv_at hl 0 rfl) ?_
        refine lv_iload_n hx hb dX4_arrive_52 rfl (lv_at hl 3 rfl) ?_
        refine cl_mv (rSN (As := [.ref (a + 4), .int (sN S), .int stay]) (rest := []) ⟨hx, hb, hml, hown, hts⟩ (c_X6_put l G (a + 4) 40 (sY (pL (wN S ((sN S) + 1)) (sN S) len)) (sN S) stay (by decide)) ⟨va_cnB 3 hts gX4_arrive_X6_put_n88 rfl rfl rfl (hO.2 _ (List.mem_of_getElem? (i := 30) rfl)) (hts (.initialized RX6) (by decide +kernel)) (by decide +kernel) ⟨Nat.le_of_ble_eq_true rfl, Nat.le_of_ble_eq_true rfl⟩, hts (.static yX6_put) (by decide +kernel), trivial⟩ (va_P.sub hP [4] rfl) hO rfl hl.1 (Nat.le_of_ble_eq_true rfl) dX4_arrive_53 ⟨Nat.le_of_ble_eq_true rfl, Nat.le_of_ble_eq_true rfl⟩) hS (fun q h => hA q (by simp only [one, blk] at *; omega)) (fun H locs hP1 hz hk hS => ?_)
        have hP : Str G a (pY (pL (wN S ((sN S) + 1)) (sN S) len) (sN S) stay) H := st_pY (st_row 4 hP rfl hP1 hk)
        refine lv_aload_n hx hb dX4_arrive_56 rfl (lv_at hl 1 rfl) ?_
        refine va_get (D := G.1) (ci := 2) (v := .ref (a + 5)) (C := RX4) (T := TX4) (N := 14) hx hb hts hin4 hown hO.1 hP 0 rfl rfl 4 (by decide) hf_24 (fun _ h9 => h9) rfl dX4_arrive_57 ?_
        refine lv_iload_n hx hb dX4_arrive_60 rfl (lv_at hl 0 rfl) ?_
        refine lv_iconst (v := 1) hx hb dX4_arrive_61 (by decide) ?_
        refine cl_mv (rSN (As := [.ref (a + 5), .int (sN S), .int 1]) (rest := []) ⟨hx, hb, hml, hown, hts⟩ (c_X6_put l G (a + 5) 40 (sT (pY (pL (wN S ((sN S) + 1)) (sN S) len) (sN S) stay)) (sN S) 1 (by decide)) ⟨va_cnB 3 hts gX4_arrive_X6_put_n88 rfl rfl rfl (hO.2 _ (List.mem_of_getElem? (i := 30) rfl)) (hts (.initialized RX6) (by decide +kernel)) (by decide +kernel) ⟨Nat.le_of_ble_eq_true rfl, Nat.le_of_ble_eq_true rfl⟩, hts (.static yX6_put) (by decide +kernel), trivial⟩ (va_P.sub hP [5] rfl) hO rfl hl.1 (Nat.le_of_ble_eq_true rfl) dX4_arrive_62 ⟨Nat.le_of_ble_eq_true rfl, Nat.le_of_ble_eq_true rfl⟩) hS (fun q h => hA q (by simp only [one, blk] at *; omega)) (fun H locs hP1 hz hk hS => ?_)
        have hP : Str G a (pT (pY (pL (wN S ((sN S) + 1)) (sN S) len) (sN S) stay) (sN S) 1) H := st_pT (st_row 5 hP rfl hP1 hk)
        refine lv_aload_n hx hb dX4_arrive_65 rfl (lv_at hl 1 rfl) ?_
        refine va_get (D := G.1) (ci := 2) (v := .ref (a + 6)) (C := RX4) (T := TX4) (N := 14) hx hb hts hin4 hown hO.1 hP 0 rfl rfl 5 (by decide) hf_27 (fun _ h9 => h9) rfl dX4_arrive_66 ?_
        refine lv_iload_n hx hb dX4_arrive_69 rfl (lv_at hl 0 rfl) ?_
        refine lv_iconst (v := -1) hx hb dX4_arrive_70 (by decide) ?_
        refine cl_mv (rSN (As := [.ref (a + 6), .int (sN S), .int (-1)]) (rest := []) ⟨hx, hb, hml, hown, hts⟩ (c_X6_put l G (a + 6) 40 (sP (pT (pY (pL (wN S ((sN S) + 1)) (sN S) len) (sN S) stay) (sN S) 1)) (sN S) (-1) (by decide)) ⟨va_cnB 3 hts gX4_arrive_X6_put_n88 rfl rfl rfl (hO.2 _ (List.mem_of_getElem? (i := 30) rfl)) (hts (.initialized RX6) (by decide +kernel)) (by decide +kernel) ⟨Nat.le_of_ble_eq_true rfl, Nat.le_of_ble_eq_true rfl⟩, hts (.static yX6_put) (by decide +kernel), trivial⟩ (va_P.sub hP [6] rfl) hO rfl hl.1 (Nat.le_of_ble_eq_true rfl) dX4_arrive_71 ⟨Nat.le_of_ble_eq_true rfl, Nat.le_of_ble_eq_true rfl⟩) hS (fun q h => hA q (by simp only [one, blk] at *; omega)) (fun H locs hP1 hz hk hS => ?_)
        have hP : Str G a (pP (pT (pY (pL (wN S ((sN S) + 1)) (sN S) len) (sN S) stay) (sN S) 1) (sN S) (-1)) H := st_pP (st_row 6 hP rfl hP1 hk)
        refine lv_aload_n hx hb dX4_arrive_74 rfl (lv_at hl 1 rfl) ?_
        refine va_get (D := G.1) (ci := 2) (v := .ref (a + 7)) (C := RX4) (T := TX4) (N := 14) hx hb hts hin4 hown hO.1 hP 0 rfl rfl 6 (by decide) hf_30 (fun _ h9 => h9) rfl dX4_arrive_75 ?_
        refine lv_iload_n hx hb dX4_arrive_78 rfl (lv_at hl 0 rfl) ?_
        refine lv_iconst (v := 0) hx hb dX4_arrive_79 (by decide) ?_
        refine cl_mv (rSN (As := [.ref (a + 7), .int (sN S), .int 0]) (rest := []) ⟨hx, hb, hml, hown, hts⟩ (c_X6_put l G (a + 7) 40 (sK (pP (pT (pY (pL (wN S ((sN S) + 1)) (sN S) len) (sN S) stay) (sN S) 1) (sN S) (-1))) (sN S) 0 (by decide)) ⟨va_cnB 3 hts gX4_arrive_X6_put_n88 rfl rfl rfl (hO.2 _ (List.mem_of_getElem? (i := 30) rfl)) (hts (.initialized RX6) (by decide +kernel)) (by decide +kernel) ⟨Nat.le_of_ble_eq_true rfl, Nat.le_of_ble_eq_true rfl⟩, hts (.static yX6_put) (by decide +kernel), trivial⟩ (va_P.sub hP [7] rfl) hO rfl hl.1 (Nat.le_of_ble_eq_true rfl) dX4_arrive_80 ⟨Nat.le_of_ble_eq_true rfl, Nat.le_of_ble_eq_true rfl⟩) hS (fun q h => hA q (by simp only [one, blk] at *; omega)) (fun H locs hP1 hz hk hS => ?_)
        have hP : Str G a (pK (pP (pT (pY (pL (wN S ((sN S) + 1)) (sN S) len) (sN S) stay) (sN S) 1) (sN S) (-1)) (sN S) 0) H := st_pK (st_row 7 hP rfl hP1 hk)
        refine lv_aload_n hx hb dX4_arrive_83 rfl (lv_at hl 1 rfl) ?_
        refine va_get (D := G.1) (ci := 2) (v := .ref (a + 8)) (C := RX4) (T := TX4) (N := 14) hx hb hts hin4 hown hO.1 hP 0 rfl rfl 7 (by decide) hf_33 (fun _ h9 => h9) rfl dX4_arrive_84 ?_
        refine lv_iload_n hx hb dX4_arrive_87 rfl (lv_at hl 0 rfl) ?_
        refine lv_iconst (v := 0) hx hb dX4_arrive_88 (by decide) ?_
        refine cl_mv (rSN (As := [.ref (a + 8), .int (sN S), .int 0]) (rest := []) ⟨hx, hb, hml, hown, hts⟩ (c_X6_put l G (a + 8) 40 (sR (pK (pP (pT (pY (pL (wN S ((sN S) + 1)) (sN S) len) (sN S) stay) (sN S) 1) (sN S) (-1)) (sN S) 0)) (sN S) 0 (by decide)) ⟨va_cnB 3 hts gX4_arrive_X6_put_n88 rfl rfl rfl (hO.2 _ (List.mem_of_getElem? (i := 30) rfl)) (hts (.initialized RX6) (by decide +kernel)) (by decide +kernel) ⟨Nat.le_of_ble_eq_true rfl, Nat.le_of_ble_eq_true rfl⟩, hts (.static yX6_put) (by decide +kernel), trivial⟩ (va_P.sub hP [8] rfl) hO rfl hl.1 (Nat.le_of_ble_eq_true rfl) dX4_arrive_89 ⟨Nat.le_of_ble_eq_true rfl, Nat.le_of_ble_eq_true rfl⟩) hS (fun q h => hA q (by simp only [one, blk] at *; omega)) (fun H locs hP1 hz hk hS => ?_)
        have hP : Str G a (pR (pK (pP (pT (pY (pL (wN S ((sN S) + 1)) (sN S) len) (sN S) stay) (sN S) 1) (sN S) (-1)) (sN S) 0) (sN S) 0) H := st_pR (st_row 8 hP rfl hP1 hk)
        refine lv_aload_n hx hb dX4_arrive_92 rfl (lv_at hl 1 rfl) ?_
        refine lv_iload_n hx hb dX4_arrive_93 rfl (lv_at hl 0 rfl) ?_
        refine cl_mi (rV (As := [.int (sN S)]) (rest := []) ⟨hx, hb, hml, hown, hts⟩ (c_X4_tryToPark l G a (pR (pK (pP (pT (pY (pL (wN S ((sN S) + 1)) (sN S) len) (sN S) stay) (sN S) 1) (sN S) (-1)) (sN S) 0) (sN S) 0) (sN S)) (cwV 1 hts gX4_arrive_X4_tryToPark rfl rfl rfl (by decide +kernel) ⟨Nat.le_of_ble_eq_true rfl, Nat.le_of_ble_eq_true rfl⟩) (st_recv hO hP) hP hO rfl hl.1 (Nat.le_of_ble_eq_true rfl) dX4_arrive_94 ⟨Nat.le_of_ble_eq_true rfl, Nat.le_of_ble_eq_true rfl⟩) hS hA (fun H locs hP1 hz hk hS => ?_)
        have hP : Str G a ((h_X4_tryToPark (pR (pK (pP (pT (pY (pL (wN S ((sN S) + 1)) (sN S) len) (sN S) stay) (sN S) 1) (sN S) (-1)) (sN S) 0) (sN S) 0) (sN S)).2) H := hP1
        refine lv_pop hx hb dX4_arrive_97 rfl ?_
        refine lv_iload_n hx hb dX4_arrive_98 rfl (lv_at hl 0 rfl) ?_
        have hE : h_X4_arrive S len stay = (sN S, (h_X4_tryToPark (pR (pK (pP (pT (pY (pL (wN S ((sN S) + 1)) (sN S) len) (sN S) stay) (sN S) 1) (sN S) (-1)) (sN S) 0) (sN S) 0) (sN S)).2) := (by rw [h_X4_arrive, if_neg c_1, if_neg c_2, if_pos c_3])
        have hE2 := snd_of hE
        exact W.iret hx hb hr (fun t ht hW => ⟨by rw [fst_of hE], by rw [ht, hE2]; exact hP, hS.F ht⟩) hS.2.2 dX4_arrive_99
      · refine lv_iconst (v := -1) hx hb dX4_arrive_21 (by decide) ?_
        have hE : h_X4_arrive S len stay = ((-1), S) := (by rw [h_X4_arrive, if_neg c_1, if_neg c_2, if_neg c_3])
        have hE2 := snd_of hE
        exact W.iret hx hb hr (fun t ht hW => ⟨by rw [fst_of hE], by rw [ht, hE2]; exact hP, hS.F ht⟩) hS.2.2 dX4_arrive_22

def h_X4_depart (S : St) (c : Int32) (sta : Int32) : Int32 × St :=
  if (f_X4_isParked S c) = 0 then ((-1), S) else
  (f_X6_get 40 (sP S) c, (pT (pP (h_X4_occupy S (f_X6_get 40 (sP S) c) (f_X6_get 40 (sL S) c) (-1)) c (-1)) c sta))
set_option maxHeartbeats 4000000 in
set_option maxRecDepth 100000 in
theorem c_X4_depart (l : Launch) (G : GG) (a : Nat) (S : St) (c : Int32) (sta : Int32) : Met l yX4_depart wsX4_depart ({ frames := 2, cells := 0, slots := 0, locals := 46 }) (PcH G [.ref a, .int c, .int sta] (Str G a S)) (QM (some (.int ((h_X4_depart S c sta).1))) (Str G a ((h_X4_depart S c sta).2)) (blk a (a + 9))) 0 0 (blk a (a + 9)) := by
  refine metH (cc := cX4_depart) (maxL := 4) (ret := (some .int)) (by decide) rfl ?_
  intro p e s m below meth cd hx hb hr hml hown hts hlocks hP hO
  have hin4 : ∀ w ∈ u_ws RX4 TX4 14, w ∈ wsX4_depart := by decide +kernel
  have hf_18 := hts (.fieldLink RX4 18 "CurbCars$Street" "lengths" "[I") (by decide +kernel)
  have hf_24 := hts (.fieldLink RX4 24 "CurbCars$Street" "states" "[I") (by decide +kernel)
  have hf_27 := hts (.fieldLink RX4 27 "CurbCars$Street" "places" "[I") (by decide +kernel)
  have hA : ∀ q, (blk a (a + 9)) q → (blk a (a + 9)) q := fun _ h => h
  have hS : va_S (blk a (a + 9)) s.heap s.heap [] := va_S.rf
  have hl := lv_entry ([.ref a, .int c, .int sta]) (n := 4) (Nat.le_of_ble_eq_true rfl)
  rw [lg_entry_eq]
  generalize (lg_sl ([.ref a, .int c, .int sta]) ++ List.replicate (4 - (lg_sl ([.ref a, .int c, .int sta])).length) Slot.unset).toArray = ls at hl ⊢
  have hl : lv_has ls 4 [(0, .ref a), (1, .int c), (2, .int sta)] := hl
  refine lv_aload_n hx hb dX4_depart_0 rfl (lv_at hl 0 rfl) ?_
  refine lv_iload_n hx hb dX4_depart_1 rfl (lv_at hl 1 rfl) ?_
  refine cl_pi (rV (As := [.int c]) (rest := []) ⟨hx, hb, hml, hown, hts⟩ (c_X4_isParked l G a S c) (cwV 1 hts gX4_depart_X4_isParked rfl rfl rfl (by decide +kernel) ⟨Nat.le_of_ble_eq_true rfl, Nat.le_of_ble_eq_true rfl⟩) (st_recv hO hP) hP hO rfl hl.1 (Nat.le_of_ble_eq_true rfl) dX4_depart_2 ⟨Nat.le_of_ble_eq_true rfl, Nat.le_of_ble_eq_true rfl⟩) ?_
  refine lv_if_ne (tgt := 10) hx hb dX4_depart_5 (by decide) (fun c_1 => ?_) (fun c_1 => ?_)
  · refine lv_aload_n hx hb dX4_depart_10 rfl (lv_at hl 0 rfl) ?_
    refine va_get (D := G.1) (ci := 2) (v := .ref (a + 6)) (C := RX4) (T := TX4) (N := 14) hx hb hts hin4 hown hO.1 hP 0 rfl rfl 5 (by decide) hf_27 (fun _ h9 => h9) rfl dX4_depart_11 ?_
    refine lv_iload_n hx hb dX4_depart_14 rfl (lv_at hl 1 rfl) ?_
    refine cl_pi (rSN (As := [.ref (a + 6), .int c]) (rest := []) ⟨hx, hb, hml, hown, hts⟩ (c_X6_get l G (a + 6) 40 (sP S) c (by decide)) ⟨va_cnB 2 hts gX4_depart_X6_get_n84 rfl rfl rfl (hO.2 _ (List.mem_of_getElem? (i := 29) rfl)) (hts (.initialized RX6) (by decide +kernel)) (by decide +kernel) ⟨Nat.le_of_ble_eq_true rfl, Nat.le_of_ble_eq_true rfl⟩, hts (.static yX6_get) (by decide +kernel), trivial⟩ (va_P.sub hP [6] rfl) hO rfl hl.1 (Nat.le_of_ble_eq_true rfl) dX4_depart_15 ⟨Nat.le_of_ble_eq_true rfl, Nat.le_of_ble_eq_true rfl⟩) ?_
    refine lv_istore_n (lv' := [(3, .int (f_X6_get 40 (sP S) c)), (0, .ref a), (1, .int c), (2, .int sta)]) hx hb dX4_depart_18 rfl hl (by decide) rfl (fun ls hl => ?_)
    refine lv_aload_n hx hb dX4_depart_19 rfl (lv_at hl 1 rfl) ?_
    refine lv_iload_n hx hb dX4_depart_20 rfl (lv_at hl 0 rfl) ?_
    refine lv_aload_n hx hb dX4_depart_21 rfl (lv_at hl 1 rfl) ?_
    refine va_get (D := G.1) (ci := 2) (v := .ref (a + 3)) (C := RX4) (T := TX4) (N := 14) hx hb hts hin4 hown hO.1 hP 0 rfl rfl 2 (by decide) hf_18 (fun _ h9 => h9) rfl dX4_depart_22 ?_
    refine lv_iload_n hx hb dX4_depart_25 rfl (lv_at hl 2 rfl) ?_
    refine cl_pi (rSN (As := [.ref (a + 3), .int c]) (rest := [.int (f_X6_get 40 (sP S) c), .ref a]) ⟨hx, hb, hml, hown, hts⟩ (c_X6_get l G (a + 3) 40 (sL S) c (by decide)) ⟨va_cnB 2 hts gX4_depart_X6_get_n84 rfl rfl rfl (hO.2 _ (List.mem_of_getElem? (i := 29) rfl)) (hts (.initialized RX6) (by decide +kernel)) (by decide +kernel) ⟨Nat.le_of_ble_eq_true rfl, Nat.le_of_ble_eq_true rfl⟩, hts (.static yX6_get) (by decide +kernel), trivial⟩ (va_P.sub hP [3] rfl) hO rfl hl.1 (Nat.le_of_ble_eq_true rfl) dX4_depart_26 ⟨Nat.le_of_ble_eq_true rfl, Nat.le_of_ble_eq_true rfl⟩) ?_
    refine lv_iconst (v := -1) hx hb dX4_depart_29 (by decide) ?_
    refine cl_mv (rV (As := [.int (f_X6_get 40 (sP S) c), .int (f_X6_get 40 (sL S) c), .int (-1)]) (rest := []) ⟨hx, hb, hml, hown, hts⟩ (c_X4_occupy l G a S (f_X6_get 40 (sP S) c) (f_X6_get 40 (sL S) c) (-1)) (cwV 3 hts gX4_depart_X4_occupy rfl rfl rfl (by decide +kernel) ⟨Nat.le_of_ble_eq_true rfl, Nat.le_of_ble_eq_true rfl⟩) (st_recv hO hP) hP hO rfl hl.1 (Nat.le_of_ble_eq_true rfl) dX4_depart_30 ⟨Nat.le_of_ble_eq_true rfl, Nat.le_of_ble_eq_true rfl⟩) hS hA (fun H locs hP1 hz hk hS => ?_)
    have hP : Str G a (h_X4_occupy S (f_X6_get 40 (sP S) c) (f_X6_get 40 (sL S) c) (-1)) H := hP1
    refine lv_aload_n hx hb dX4_depart_33 rfl (lv_at hl 1 rfl) ?_
    refine va_get (D := G.1) (ci := 2) (v := .ref (a + 6)) (C := RX4) (T := TX4) (N := 14) hx hb hts hin4 hown hO.1 hP 0 rfl rfl 5 (by decide) hf_27 (fun _ h9 => h9) rfl dX4_depart_34 ?_
    refine lv_iload_n hx hb dX4_depart_37 rfl (lv_at hl 2 rfl) ?_
    refine lv_iconst (v := -1) hx hb dX4_depart_38 (by decide) ?_
    refine cl_mv (rSN (As := [.ref (a + 6), .int c, .int (-1)]) (rest := []) ⟨hx, hb, hml, hown, hts⟩ (c_X6_put l G (a + 6) 40 (sP (h_X4_occupy S (f_X6_get 40 (sP S) c) (f_X6_get 40 (sL S) c) (-1))) c (-1) (by decide)) ⟨va_cnB 3 hts gX4_depart_X6_put_n88 rfl rfl rfl (hO.2 _ (List.mem_of_getElem? (i := 30) rfl)) (hts (.initialized RX6) (by decide +kernel)) (by decide +kernel) ⟨Nat.le_of_ble_eq_true rfl, Nat.le_of_ble_eq_true rfl⟩, hts (.static yX6_put) (by decide +kernel), trivial⟩ (va_P.sub hP [6] rfl) hO rfl hl.1 (Nat.le_of_ble_eq_true rfl) dX4_depart_39 ⟨Nat.le_of_ble_eq_true rfl, Nat.le_of_ble_eq_true rfl⟩) hS (fun q h => hA q (by simp only [one, blk] at *; omega)) (fun H locs hP1 hz hk hS => ?_)
    have hP : Str G a (pP (h_X4_occupy S (f_X6_get 40 (sP S) c) (f_X6_get 40 (sL S) c) (-1)) c (-1)) H := st_pP (st_row 6 hP rfl hP1 hk)
    refine lv_aload_n hx hb dX4_depart_42 rfl (lv_at hl 1 rfl) ?_
    refine va_get (D := G.1) (ci := 2) (v := .ref (a + 5)) (C := RX4) (T := TX4) (N := 14) hx hb hts hin4 hown hO.1 hP 0 rfl rfl 4 (by decide) hf_24 (fun _ h9 => h9) rfl dX4_depart_43 ?_
    refine lv_iload_n hx hb dX4_depart_46 rfl (lv_at hl 2 rfl) ?_
    refine lv_iload_n hx hb dX4_depart_47 rfl (lv_at hl 3 rfl) ?_
    refine cl_mv (rSN (As := [.ref (a + 5), .int c, .int sta]) (rest := []) ⟨hx, hb, hml, hown, hts⟩ (c_X6_put l G (a + 5) 40 (sT (pP (h_X4_occupy S (f_X6_get 40 (sP S) c) (f_X6_get 40 (sL S) c) (-1)) c (-1))) c sta (by decide)) ⟨va_cnB 3 hts gX4_depart_X6_put_n88 rfl rfl rfl (hO.2 _ (List.mem_of_getElem? (i := 30) rfl)) (hts (.initialized RX6) (by decide +kernel)) (by decide +kernel) ⟨Nat.le_of_ble_eq_true rfl, Nat.le_of_ble_eq_true rfl⟩, hts (.static yX6_put) (by decide +kernel), trivial⟩ (va_P.sub hP [5] rfl) hO rfl hl.1 (Nat.le_of_ble_eq_true rfl) dX4_depart_48 ⟨Nat.le_of_ble_eq_true rfl, Nat.le_of_ble_eq_true rfl⟩) hS (fun q h => hA q (by simp only [one, blk] at *; omega)) (fun H locs hP1 hz hk hS => ?_)
    have hP : Str G a (pT (pP (h_X4_occupy S (f_X6_get 40 (sP S) c) (f_X6_get 40 (sL S) c) (-1)) c (-1)) c sta) H := st_pT (st_row 5 hP rfl hP1 hk)
    refine lv_iload_n hx hb dX4_depart_51 rfl (lv_at hl 0 rfl) ?_
    have hE : h_X4_depart S c sta = (f_X6_get 40 (sP S) c, (pT (pP (h_X4_occupy S (f_X6_get 40 (sP S) c) (f_X6_get 40 (sL S) c) (-1)) c (-1)) c sta)) := (by rw [h_X4_depart, if_neg c_1])
    have hE2 := snd_of hE
    exact W.iret hx hb hr (fun t ht hW => ⟨by rw [fst_of hE], by rw [ht, hE2]; exact hP, hS.F ht⟩) hS.2.2 dX4_depart_52
  · refine lv_iconst (v := -1) hx hb dX4_depart_8 (by decide) ?_
    have hE : h_X4_depart S c sta = ((-1), S) := (by rw [h_X4_depart, if_pos c_1])
    have hE2 := snd_of hE
    exact W.iret hx hb hr (fun t ht hW => ⟨by rw [fst_of hE], by rw [ht, hE2]; exact hP, hS.F ht⟩) hS.2.2 dX4_depart_9

theorem isFree_rng {S : St} {y : Int32} (h : ¬ f_X4_isFree S y = 0) : 0 ≤ y.toInt ∧ y.toInt < 80 := by
  rw [f_X4_isFree] at h
  by_cases c : f_X6_isCell y = 0
  · rw [if_pos c] at h
    exact absurd rfl h
  · rw [f_X6_isCell] at c
    by_cases c1 : y < 0
    · rw [if_pos c1] at c
      exact absurd rfl c
    · rw [if_neg c1] at c
      by_cases c2 : 80 ≤ y
      · rw [if_pos c2] at c
        exact absurd rfl c
      · rw [Int32.lt_iff_toInt_lt, Int32.toInt_zero] at c1
        rw [Int32.le_iff_toInt_le] at c2
        have : (80 : Int32).toInt = 80 := by decide
        omega
theorem dec1 {y : Int32} (h : 0 ≤ y.toInt) : (y + (-1)).toInt = y.toInt - 1 := by
  have h1 := (fb_rng' y).2
  rw [Int32.toInt_add, show (-1 : Int32).toInt = -1 by decide, Int.bmod_eq_of_le (by omega) (by omega)]
  omega
theorem inc1 {y : Int32} (h : 0 ≤ y.toInt) (h2 : y.toInt < 80) : (y + 1).toInt = y.toInt + 1 := by
  rw [Int32.toInt_add, show (1 : Int32).toInt = 1 by decide, Int.bmod_eq_of_le (by omega) (by omega)]
theorem get_rng {f : Rw} {y c : Int32} (h : f_X6_get 80 f y = c) (hc : 0 ≤ c.toInt) : 0 ≤ y.toInt ∧ y.toInt < 80 := by
  rw [f_X6_get] at h
  have hm : (-1 : Int32).toInt = -1 := by decide
  by_cases c1 : y < 0
  · rw [if_pos c1] at h
    rw [← h, hm] at hc
    omega
  · rw [if_neg c1] at h
    by_cases c2 : y < nI 80
    · rw [Int32.lt_iff_toInt_lt, Int32.toInt_zero] at c1
      rw [Int32.lt_iff_toInt_lt, nI_toInt (by decide)] at c2
      omega
    · rw [if_neg c2] at h
      rw [← h, hm] at hc
      omega
theorem parked_pos {S : St} {c : Int32} (h : ¬ f_X4_isParked S c = 0) : 0 ≤ c.toInt := by
  rw [f_X4_isParked] at h
  by_cases c0 : f_X4_isCar S c = 0
  · rw [if_pos c0] at h
    exact absurd rfl h
  · rw [f_X4_isCar] at c0
    by_cases c1 : c < 0
    · rw [if_pos c1] at c0
      exact absurd rfl c0
    · rw [Int32.lt_iff_toInt_lt, Int32.toInt_zero] at c1
      omega
theorem lt80 {y : Int32} (h : ¬ (80 : Int32) ≤ y) : y.toInt < 80 := by
  rw [Int32.le_iff_toInt_le, show (80 : Int32).toInt = 80 by decide] at h
  omega

def lp_below (S : St) : Nat → Int32 → Int32 → Int32
  | 0, _, _ => 0
  | n + 1, acc, y => if y < 0 then acc else
    if (f_X4_isFree S y) = 0 then acc else
    lp_below S n (acc + 1) (y + (-1))
def f_X4_freeBelow (S : St) (c : Int32) : Int32 :=
  lp_below S 82 0 ((f_X6_get 40 (sP S) c) - 1)
set_option maxHeartbeats 4000000 in
set_option maxRecDepth 100000 in
theorem c_X4_freeBelow (l : Launch) (G : GG) (a : Nat) (S : St) (c : Int32) : Met l yX4_freeBelow wsX4_freeBelow ({ frames := 2, cells := 0, slots := 0, locals := 42 }) (PcH G [.ref a, .int c] (Str G a S)) (QP (some (.int (f_X4_freeBelow S c)))) 0 0 noA := by
  refine metH (cc := cX4_freeBelow) (maxL := 4) (ret := (some .int)) (by decide) rfl ?_
  intro p e s m below meth cd hx hb hr hml hown hts hlocks hP hO
  have hin4 : ∀ w ∈ u_ws RX4 TX4 14, w ∈ wsX4_freeBelow := by decide +kernel
  have hf_27 := hts (.fieldLink RX4 27 "CurbCars$Street" "places" "[I") (by decide +kernel)
  have hS : va_S noA s.heap s.heap [] := va_S.rf
  have hl := lv_entry ([.ref a, .int c]) (n := 4) (Nat.le_of_ble_eq_true rfl)
  rw [lg_entry_eq]
  generalize (lg_sl ([.ref a, .int c]) ++ List.replicate (4 - (lg_sl ([.ref a, .int c])).length) Slot.unset).toArray = ls at hl ⊢
  have hl : lv_has ls 4 [(0, .ref a), (1, .int c)] := hl
  have loop13 : ∀ (n : Nat) (acc : Int32) (y : Int32) , (n = 82 ∨ (-1 ≤ y.toInt ∧ y.toInt + 1 < n)) → f_X4_freeBelow S c = lp_below S n acc y → ∀ (ls : Array Slot), lv_has ls 4 [(0, .ref a), (1, .int c), (2, .int acc), (3, .int y)] → W p l e (headSpec wsX4_freeBelow ({ frames := 2, cells := 0, slots := 0, locals := 42 } : Room)).room s m ([.ref a, .int c] : List Value).toArray below meth cd s.heap [] 0 0 (MQ below (QP (some (.int (f_X4_freeBelow S c)))) ([.ref a, .int c] : List Value).toArray s 0 0 noA) (F0 m 13 ls []) := by
    intro n
    induction n with
    | zero =>
      intro acc y hy hR ls hl
      exact absurd hy (by omega)
    | succ n ih =>
      intro acc y hy hR ls hl
      refine lv_iload_n hx hb dX4_freeBelow_13 rfl (lv_at hl 3 rfl) ?_
      refine lv_if_lt (tgt := 34) hx hb dX4_freeBelow_14 (by decide) (fun c_1 => ?_) (fun c_1 => ?_)
      · refine lv_iload_n hx hb dX4_freeBelow_34 rfl (lv_at hl 2 rfl) ?_
        have hE : f_X4_freeBelow S c = acc := (hR.trans (by rw [lp_below, if_pos c_1]))
        exact W.iret hx hb hr (fun t ht hW => ⟨by rw [hE], ht⟩) hS.2.2 dX4_freeBelow_35
      · refine lv_aload_n hx hb dX4_freeBelow_17 rfl (lv_at hl 0 rfl) ?_
        refine lv_iload_n hx hb dX4_freeBelow_18 rfl (lv_at hl 3 rfl) ?_
        refine cl_pi (rV (As := [.int y]) (rest := []) ⟨hx, hb, hml, hown, hts⟩ (c_X4_isFree l G a S y) (cwV 1 hts gX4_freeBelow_X4_isFree rfl rfl rfl (by decide +kernel) ⟨Nat.le_of_ble_eq_true rfl, Nat.le_of_ble_eq_true rfl⟩) (st_recv hO hP) hP hO rfl hl.1 (Nat.le_of_ble_eq_true rfl) dX4_freeBelow_19 ⟨Nat.le_of_ble_eq_true rfl, Nat.le_of_ble_eq_true rfl⟩) ?_
        refine lv_if_eq (tgt := 34) hx hb dX4_freeBelow_22 (by decide) (fun c_2 => ?_) (fun c_2 => ?_)
        · refine lv_iload_n hx hb dX4_freeBelow_34 rfl (lv_at hl 2 rfl) ?_
          have hE : f_X4_freeBelow S c = acc := (hR.trans (by rw [lp_below, if_neg c_1, if_pos c_2]))
          exact W.iret hx hb hr (fun t ht hW => ⟨by rw [hE], ht⟩) hS.2.2 dX4_freeBelow_35
        · refine lv_iinc (v := acc + 1) (lv' := [(2, .int (acc + 1)), (0, .ref a), (1, .int c), (3, .int y)]) hx hb dX4_freeBelow_25 hl (k := 2) rfl rfl (by decide) rfl (fun ls hl => ?_)
          refine lv_iinc (v := y + (-1)) (lv' := [(3, .int (y + (-1))), (2, .int (acc + 1)), (0, .ref a), (1, .int c)]) hx hb dX4_freeBelow_28 hl (k := 3) rfl rfl (by decide) rfl (fun ls hl => ?_)
          refine lv_goto (tgt := 13) hx hb dX4_freeBelow_31 (by decide) ?_
          have hE_3 : f_X4_freeBelow S c = lp_below S n (acc + 1) (y + (-1)) := (hR.trans (by rw [lp_below, if_neg c_1, if_neg c_2]))
          exact ih (acc + 1) (y + (-1)) (by have h8 := isFree_rng (by assumption); have h9 := dec1 (y := y) (by omega); omega) hE_3 _ (lv_sub hl [2, 3, 1, 0] rfl)
  refine lv_iconst (v := 0) hx hb dX4_freeBelow_0 (by decide) ?_
  refine lv_istore_n (lv' := [(2, .int 0), (0, .ref a), (1, .int c)]) hx hb dX4_freeBelow_1 rfl hl (by decide) rfl (fun ls hl => ?_)
  refine lv_aload_n hx hb dX4_freeBelow_2 rfl (lv_at hl 1 rfl) ?_
  refine va_get (D := G.1) (ci := 2) (v := .ref (a + 6)) (C := RX4) (T := TX4) (N := 14) hx hb hts hin4 hown hO.1 hP 0 rfl rfl 5 (by decide) hf_27 (fun _ h9 => h9) rfl dX4_freeBelow_3 ?_
  refine lv_iload_n hx hb dX4_freeBelow_6 rfl (lv_at hl 2 rfl) ?_
  refine cl_pi (rSN (As := [.ref (a + 6), .int c]) (rest := []) ⟨hx, hb, hml, hown, hts⟩ (c_X6_get l G (a + 6) 40 (sP S) c (by decide)) ⟨va_cnB 2 hts gX4_freeBelow_X6_get_n84 rfl rfl rfl (hO.2 _ (List.mem_of_getElem? (i := 29) rfl)) (hts (.initialized RX6) (by decide +kernel)) (by decide +kernel) ⟨Nat.le_of_ble_eq_true rfl, Nat.le_of_ble_eq_true rfl⟩, hts (.static yX6_get) (by decide +kernel), trivial⟩ (va_P.sub hP [6] rfl) hO rfl hl.1 (Nat.le_of_ble_eq_true rfl) dX4_freeBelow_7 ⟨Nat.le_of_ble_eq_true rfl, Nat.le_of_ble_eq_true rfl⟩) ?_
  refine lv_iconst (v := 1) hx hb dX4_freeBelow_10 (by decide) ?_
  refine lv_isub hx hb dX4_freeBelow_11 ?_
  refine lv_istore_n (lv' := [(3, .int ((f_X6_get 40 (sP S) c) - 1)), (2, .int 0), (0, .ref a), (1, .int c)]) hx hb dX4_freeBelow_12 rfl hl (by decide) rfl (fun ls hl => ?_)
  have hE_4 : f_X4_freeBelow S c = lp_below S 82 0 ((f_X6_get 40 (sP S) c) - 1) := (by rw [f_X4_freeBelow])
  exact loop13 82 0 ((f_X6_get 40 (sP S) c) - 1) (Or.inl rfl) hE_4 _ (lv_sub hl [2, 3, 1, 0] rfl)

def lp_above (S : St) : Nat → Int32 → Int32 → Int32
  | 0, _, _ => 0
  | n + 1, acc, y => if 80 ≤ y then acc else
    if (f_X4_isFree S y) = 0 then acc else
    lp_above S n (acc + 1) (y + 1)
def f_X4_freeAbove (S : St) (c : Int32) : Int32 :=
  lp_above S 82 0 ((f_X6_get 40 (sP S) c) + (f_X6_get 40 (sL S) c))
set_option maxHeartbeats 4000000 in
set_option maxRecDepth 100000 in
theorem c_X4_freeAbove (l : Launch) (G : GG) (a : Nat) (S : St) (c : Int32) : Met l yX4_freeAbove wsX4_freeAbove ({ frames := 2, cells := 0, slots := 0, locals := 42 }) (PcH G [.ref a, .int c] (Str G a S)) (QP (some (.int (f_X4_freeAbove S c)))) 0 0 noA := by
  refine metH (cc := cX4_freeAbove) (maxL := 4) (ret := (some .int)) (by decide) rfl ?_
  intro p e s m below meth cd hx hb hr hml hown hts hlocks hP hO
  have hin4 : ∀ w ∈ u_ws RX4 TX4 14, w ∈ wsX4_freeAbove := by decide +kernel
  have hf_18 := hts (.fieldLink RX4 18 "CurbCars$Street" "lengths" "[I") (by decide +kernel)
  have hf_27 := hts (.fieldLink RX4 27 "CurbCars$Street" "places" "[I") (by decide +kernel)
  have hS : va_S noA s.heap s.heap [] := va_S.rf
  have hl := lv_entry ([.ref a, .int c]) (n := 4) (Nat.le_of_ble_eq_true rfl)
  rw [lg_entry_eq]
  generalize (lg_sl ([.ref a, .int c]) ++ List.replicate (4 - (lg_sl ([.ref a, .int c])).length) Slot.unset).toArray = ls at hl ⊢
  have hl : lv_has ls 4 [(0, .ref a), (1, .int c)] := hl
  have loop20 : ∀ (n : Nat) (acc : Int32) (y : Int32) , (n = 82 ∨ (0 ≤ y.toInt ∧ y.toInt ≤ 80 ∧ 80 - y.toInt < n)) → f_X4_freeAbove S c = lp_above S n acc y → ∀ (ls : Array Slot), lv_has ls 4 [(0, .ref a), (1, .int c), (2, .int acc), (3, .int y)] → W p l e (headSpec wsX4_freeAbove ({ frames := 2, cells := 0, slots := 0, locals := 42 } : Room)).room s m ([.ref a, .int c] : List Value).toArray below meth cd s.heap [] 0 0 (MQ below (QP (some (.int (f_X4_freeAbove S c)))) ([.ref a, .int c] : List Value).toArray s 0 0 noA) (F0 m 20 ls []) := by
    intro n
    induction n with
    | zero =>
      intro acc y hy hR ls hl
      exact absurd hy (by omega)
    | succ n ih =>
      intro acc y hy hR ls hl
      refine lv_iload_n hx hb dX4_freeAbove_20 rfl (lv_at hl 3 rfl) ?_
      refine lv_bipush (v := 80) hx hb dX4_freeAbove_21 (by decide) ?_
      refine lv_icmp_ge (tgt := 43) hx hb dX4_freeAbove_23 (by decide) (fun c_1 => ?_) (fun c_1 => ?_)
      · refine lv_iload_n hx hb dX4_freeAbove_43 rfl (lv_at hl 2 rfl) ?_
        have hE : f_X4_freeAbove S c = acc := (hR.trans (by rw [lp_above, if_pos c_1]))
        exact W.iret hx hb hr (fun t ht hW => ⟨by rw [hE], ht⟩) hS.2.2 dX4_freeAbove_44
      · refine lv_aload_n hx hb dX4_freeAbove_26 rfl (lv_at hl 0 rfl) ?_
        refine lv_iload_n hx hb dX4_freeAbove_27 rfl (lv_at hl 3 rfl) ?_
        refine cl_pi (rV (As := [.int y]) (rest := []) ⟨hx, hb, hml, hown, hts⟩ (c_X4_isFree l G a S y) (cwV 1 hts gX4_freeAbove_X4_isFree rfl rfl rfl (by decide +kernel) ⟨Nat.le_of_ble_eq_true rfl, Nat.le_of_ble_eq_true rfl⟩) (st_recv hO hP) hP hO rfl hl.1 (Nat.le_of_ble_eq_true rfl) dX4_freeAbove_28 ⟨Nat.le_of_ble_eq_true rfl, Nat.le_of_ble_eq_true rfl⟩) ?_
        refine lv_if_eq (tgt := 43) hx hb dX4_freeAbove_31 (by decide) (fun c_2 => ?_) (fun c_2 => ?_)
        · refine lv_iload_n hx hb dX4_freeAbove_43 rfl (lv_at hl 2 rfl) ?_
          have hE : f_X4_freeAbove S c = acc := (hR.trans (by rw [lp_above, if_neg c_1, if_pos c_2]))
          exact W.iret hx hb hr (fun t ht hW => ⟨by rw [hE], ht⟩) hS.2.2 dX4_freeAbove_44
        · refine lv_iinc (v := acc + 1) (lv' := [(2, .int (acc + 1)), (0, .ref a), (1, .int c), (3, .int y)]) hx hb dX4_freeAbove_34 hl (k := 2) rfl rfl (by decide) rfl (fun ls hl => ?_)
          refine lv_iinc (v := y + 1) (lv' := [(3, .int (y + 1)), (2, .int (acc + 1)), (0, .ref a), (1, .int c)]) hx hb dX4_freeAbove_37 hl (k := 3) rfl rfl (by decide) rfl (fun ls hl => ?_)
          refine lv_goto (tgt := 20) hx hb dX4_freeAbove_40 (by decide) ?_
          have hE_3 : f_X4_freeAbove S c = lp_above S n (acc + 1) (y + 1) := (hR.trans (by rw [lp_above, if_neg c_1, if_neg c_2]))
          exact ih (acc + 1) (y + 1) (by have h8 := isFree_rng (by assumption); have h9 := inc1 (y := y) (by omega) (by omega); omega) hE_3 _ (lv_sub hl [2, 3, 1, 0] rfl)
  refine lv_iconst (v := 0) hx hb dX4_freeAbove_0 (by decide) ?_
  refine lv_istore_n (lv' := [(2, .int 0), (0, .ref a), (1, .int c)]) hx hb dX4_freeAbove_1 rfl hl (by decide) rfl (fun ls hl => ?_)
  refine lv_aload_n hx hb dX4_freeAbove_2 rfl (lv_at hl 1 rfl) ?_
  refine va_get (D := G.1) (ci := 2) (v := .ref (a + 6)) (C := RX4) (T := TX4) (N := 14) hx hb hts hin4 hown hO.1 hP 0 rfl rfl 5 (by decide) hf_27 (fun _ h9 => h9) rfl dX4_freeAbove_3 ?_
  refine lv_iload_n hx hb dX4_freeAbove_6 rfl (lv_at hl 2 rfl) ?_
  refine cl_pi (rSN (As := [.ref (a + 6), .int c]) (rest := []) ⟨hx, hb, hml, hown, hts⟩ (c_X6_get l G (a + 6) 40 (sP S) c (by decide)) ⟨va_cnB 2 hts gX4_freeAbove_X6_get_n84 rfl rfl rfl (hO.2 _ (List.mem_of_getElem? (i := 29) rfl)) (hts (.initialized RX6) (by decide +kernel)) (by decide +kernel) ⟨Nat.le_of_ble_eq_true rfl, Nat.le_of_ble_eq_true rfl⟩, hts (.static yX6_get) (by decide +kernel), trivial⟩ (va_P.sub hP [6] rfl) hO rfl hl.1 (Nat.le_of_ble_eq_true rfl) dX4_freeAbove_7 ⟨Nat.le_of_ble_eq_true rfl, Nat.le_of_ble_eq_true rfl⟩) ?_
  refine lv_aload_n hx hb dX4_freeAbove_10 rfl (lv_at hl 1 rfl) ?_
  refine va_get (D := G.1) (ci := 2) (v := .ref (a + 3)) (C := RX4) (T := TX4) (N := 14) hx hb hts hin4 hown hO.1 hP 0 rfl rfl 2 (by decide) hf_18 (fun _ h9 => h9) rfl dX4_freeAbove_11 ?_
  refine lv_iload_n hx hb dX4_freeAbove_14 rfl (lv_at hl 2 rfl) ?_
  refine cl_pi (rSN (As := [.ref (a + 3), .int c]) (rest := [.int (f_X6_get 40 (sP S) c)]) ⟨hx, hb, hml, hown, hts⟩ (c_X6_get l G (a + 3) 40 (sL S) c (by decide)) ⟨va_cnB 2 hts gX4_freeAbove_X6_get_n84 rfl rfl rfl (hO.2 _ (List.mem_of_getElem? (i := 29) rfl)) (hts (.initialized RX6) (by decide +kernel)) (by decide +kernel) ⟨Nat.le_of_ble_eq_true rfl, Nat.le_of_ble_eq_true rfl⟩, hts (.static yX6_get) (by decide +kernel), trivial⟩ (va_P.sub hP [3] rfl) hO rfl hl.1 (Nat.le_of_ble_eq_true rfl) dX4_freeAbove_15 ⟨Nat.le_of_ble_eq_true rfl, Nat.le_of_ble_eq_true rfl⟩) ?_
  refine lv_iadd hx hb dX4_freeAbove_18 ?_
  refine lv_istore_n (lv' := [(3, .int ((f_X6_get 40 (sP S) c) + (f_X6_get 40 (sL S) c))), (2, .int 0), (0, .ref a), (1, .int c)]) hx hb dX4_freeAbove_19 rfl hl (by decide) rfl (fun ls hl => ?_)
  have hE_4 : f_X4_freeAbove S c = lp_above S 82 0 ((f_X6_get 40 (sP S) c) + (f_X6_get 40 (sL S) c)) := (by rw [f_X4_freeAbove])
  exact loop20 82 0 ((f_X6_get 40 (sP S) c) + (f_X6_get 40 (sL S) c)) (Or.inl rfl) hE_4 _ (lv_sub hl [2, 3, 1, 0] rfl)

def lp_clear (S : St) (c : Int32) : Nat → Int32 → Int32 → Int32
  | 0, _, _ => 0
  | n + 1, en, y => if en ≤ y then 1 else
    if (f_X4_isFree S y) = 0 then (if (f_X6_get 80 (sC S) y) = c then lp_clear S c n en (y + 1) else
      0) else
    lp_clear S c n en (y + 1)
def f_X4_canShift (S : St) (c : Int32) (x : Int32) : Int32 :=
  if (f_X4_isParked S c) = 0 then 0 else
  if (f_X6_isCell x) = 0 then 0 else
  if (x + (f_X6_get 40 (sL S) c)) ≤ 80 then (if (f_X6_get 40 (sP S) c) ≤ x then (if x ≤ (f_X6_get 40 (sP S) c) then lp_clear S c 82 (x + (f_X6_get 40 (sL S) c)) x else
      lp_clear S c 82 (x + (f_X6_get 40 (sL S) c)) (f_X6_get 40 (sP S) c)) else
    if x ≤ (f_X6_get 40 (sP S) c) then lp_clear S c 82 ((f_X6_get 40 (sP S) c) + (f_X6_get 40 (sL S) c)) x else
    lp_clear S c 82 ((f_X6_get 40 (sP S) c) + (f_X6_get 40 (sL S) c)) (f_X6_get 40 (sP S) c)) else
  0
set_option maxHeartbeats 4000000 in
set_option maxRecDepth 100000 in
theorem c_X4_canShift (l : Launch) (G : GG) (a : Nat) (S : St) (c : Int32) (x : Int32) : Met l yX4_canShift wsX4_canShift ({ frames := 2, cells := 0, slots := 0, locals := 42 }) (PcH G [.ref a, .int c, .int x] (Str G a S)) (QP (some (.int (f_X4_canShift S c x)))) 0 0 noA := by
  refine metH (cc := cX4_canShift) (maxL := 7) (ret := (some .boolean)) (by decide) rfl ?_
  intro p e s m below meth cd hx hb hr hml hown hts hlocks hP hO
  have hin4 : ∀ w ∈ u_ws RX4 TX4 14, w ∈ wsX4_canShift := by decide +kernel
  have hf_9 := hts (.fieldLink RX4 9 "CurbCars$Street" "cells" "[I") (by decide +kernel)
  have hf_18 := hts (.fieldLink RX4 18 "CurbCars$Street" "lengths" "[I") (by decide +kernel)
  have hf_27 := hts (.fieldLink RX4 27 "CurbCars$Street" "places" "[I") (by decide +kernel)
  have hS : va_S noA s.heap s.heap [] := va_S.rf
  have hl := lv_entry ([.ref a, .int c, .int x]) (n := 7) (Nat.le_of_ble_eq_true rfl)
  rw [lg_entry_eq]
  generalize (lg_sl ([.ref a, .int c, .int x]) ++ List.replicate (7 - (lg_sl ([.ref a, .int c, .int x])).length) Slot.unset).toArray = ls at hl ⊢
  have hl : lv_has ls 7 [(0, .ref a), (1, .int c), (2, .int x)] := hl
  have loop72 : ∀ (n : Nat) (en : Int32) (y : Int32) , ¬ f_X4_isParked S c = 0 → (n = 82 ∨ (0 ≤ y.toInt ∧ y.toInt ≤ 80 ∧ 80 - y.toInt < n)) → f_X4_canShift S c x = lp_clear S c n en y → ∀ (ls : Array Slot), lv_has ls 7 [(0, .ref a), (1, .int c), (2, .int x), (5, .int en), (6, .int y)] → W p l e (headSpec wsX4_canShift ({ frames := 2, cells := 0, slots := 0, locals := 42 } : Room)).room s m ([.ref a, .int c, .int x] : List Value).toArray below meth cd s.heap [] 0 0 (MQ below (QP (some (.int (f_X4_canShift S c x)))) ([.ref a, .int c, .int x] : List Value).toArray s 0 0 noA) (F0 m 72 ls []) := by
    intro n
    induction n with
    | zero =>
      intro en y hp hy hR ls hl
      exact absurd hy (by omega)
    | succ n ih =>
      intro en y hp hy hR ls hl
      refine lv_iload hx hb dX4_canShift_72 (lv_at hl 4 rfl) ?_
      refine lv_iload hx hb dX4_canShift_74 (lv_at hl 3 rfl) ?_
      refine lv_icmp_ge (tgt := 109) hx hb dX4_canShift_76 (by decide) (fun c_1 => ?_) (fun c_1 => ?_)
      · refine lv_iconst (v := 1) hx hb dX4_canShift_109 (by decide) ?_
        have hE : f_X4_canShift S c x = 1 := (hR.trans (by rw [lp_clear, if_pos c_1]))
        exact W.zret (ty := .boolean) hx hb hr rfl (fun t ht hW => ⟨by rw [hE], ht⟩) hS.2.2 dX4_canShift_110
      · refine lv_aload_n hx hb dX4_canShift_79 rfl (lv_at hl 0 rfl) ?_
        refine lv_iload hx hb dX4_canShift_80 (lv_at hl 4 rfl) ?_
        refine cl_pi (rV (As := [.int y]) (rest := []) ⟨hx, hb, hml, hown, hts⟩ (c_X4_isFree l G a S y) (cwV 1 hts gX4_canShift_X4_isFree rfl rfl rfl (by decide +kernel) ⟨Nat.le_of_ble_eq_true rfl, Nat.le_of_ble_eq_true rfl⟩) (st_recv hO hP) hP hO rfl hl.1 (Nat.le_of_ble_eq_true rfl) dX4_canShift_82 ⟨Nat.le_of_ble_eq_true rfl, Nat.le_of_ble_eq_true rfl⟩) ?_
        refine lv_if_ne (tgt := 103) hx hb dX4_canShift_85 (by decide) (fun c_2 => ?_) (fun c_2 => ?_)
        · refine lv_iinc (v := y + 1) (lv' := [(6, .int (y + 1)), (0, .ref a), (1, .int c), (2, .int x), (5, .int en)]) hx hb dX4_canShift_103 hl (k := 4) rfl rfl (by decide) rfl (fun ls hl => ?_)
          refine lv_goto (tgt := 72) hx hb dX4_canShift_106 (by decide) ?_
          have hE_3 : f_X4_canShift S c x = lp_clear S c n en (y + 1) := (hR.trans (by rw [lp_clear, if_neg c_1, if_neg c_2]))
          exact ih en (y + 1) hp (by have h8 : 0 ≤ y.toInt ∧ y.toInt < 80 := (by first | exact isFree_rng (by assumption) | exact get_rng (by assumption) (parked_pos hp)); have h9 := inc1 (y := y) h8.1 h8.2; omega) hE_3 _ (lv_sub hl [1, 2, 3, 4, 0] rfl)
        · refine lv_aload_n hx hb dX4_canShift_88 rfl (lv_at hl 0 rfl) ?_
          refine va_get (D := G.1) (ci := 2) (v := .ref (a + 1)) (C := RX4) (T := TX4) (N := 14) hx hb hts hin4 hown hO.1 hP 0 rfl rfl 0 (by decide) hf_9 (fun _ h9 => h9) rfl dX4_canShift_89 ?_
          refine lv_iload hx hb dX4_canShift_92 (lv_at hl 4 rfl) ?_
          refine cl_pi (rSN (As := [.ref (a + 1), .int y]) (rest := []) ⟨hx, hb, hml, hown, hts⟩ (c_X6_get l G (a + 1) 80 (sC S) y (by decide)) ⟨va_cnB 2 hts gX4_canShift_X6_get_n84 rfl rfl rfl (hO.2 _ (List.mem_of_getElem? (i := 29) rfl)) (hts (.initialized RX6) (by decide +kernel)) (by decide +kernel) ⟨Nat.le_of_ble_eq_true rfl, Nat.le_of_ble_eq_true rfl⟩, hts (.static yX6_get) (by decide +kernel), trivial⟩ (va_P.sub hP [1] rfl) hO rfl hl.1 (Nat.le_of_ble_eq_true rfl) dX4_canShift_94 ⟨Nat.le_of_ble_eq_true rfl, Nat.le_of_ble_eq_true rfl⟩) ?_
          refine lv_iload_n hx hb dX4_canShift_97 rfl (lv_at hl 1 rfl) ?_
          refine lv_icmp_eq (tgt := 103) hx hb dX4_canShift_98 (by decide) (fun c_4 => ?_) (fun c_4 => ?_)
          · refine lv_iinc (v := y + 1) (lv' := [(6, .int (y + 1)), (0, .ref a), (1, .int c), (2, .int x), (5, .int en)]) hx hb dX4_canShift_103 hl (k := 4) rfl rfl (by decide) rfl (fun ls hl => ?_)
            refine lv_goto (tgt := 72) hx hb dX4_canShift_106 (by decide) ?_
            have hE_5 : f_X4_canShift S c x = lp_clear S c n en (y + 1) := (hR.trans (by rw [lp_clear, if_neg c_1, if_pos c_2, if_pos c_4]))
            exact ih en (y + 1) hp (by have h8 : 0 ≤ y.toInt ∧ y.toInt < 80 := (by first | exact isFree_rng (by assumption) | exact get_rng (by assumption) (parked_pos hp)); have h9 := inc1 (y := y) h8.1 h8.2; omega) hE_5 _ (lv_sub hl [1, 2, 3, 4, 0] rfl)
          · refine lv_iconst (v := 0) hx hb dX4_canShift_101 (by decide) ?_
            have hE : f_X4_canShift S c x = 0 := (hR.trans (by rw [lp_clear, if_neg c_1, if_pos c_2, if_neg c_4]))
            exact W.zret (ty := .boolean) hx hb hr rfl (fun t ht hW => ⟨by rw [hE], ht⟩) hS.2.2 dX4_canShift_102
  refine lv_aload_n hx hb dX4_canShift_0 rfl (lv_at hl 0 rfl) ?_
  refine va_get (D := G.1) (ci := 2) (v := .ref (a + 6)) (C := RX4) (T := TX4) (N := 14) hx hb hts hin4 hown hO.1 hP 0 rfl rfl 5 (by decide) hf_27 (fun _ h9 => h9) rfl dX4_canShift_1 ?_
  refine lv_iload_n hx hb dX4_canShift_4 rfl (lv_at hl 1 rfl) ?_
  refine cl_pi (rSN (As := [.ref (a + 6), .int c]) (rest := []) ⟨hx, hb, hml, hown, hts⟩ (c_X6_get l G (a + 6) 40 (sP S) c (by decide)) ⟨va_cnB 2 hts gX4_canShift_X6_get_n84 rfl rfl rfl (hO.2 _ (List.mem_of_getElem? (i := 29) rfl)) (hts (.initialized RX6) (by decide +kernel)) (by decide +kernel) ⟨Nat.le_of_ble_eq_true rfl, Nat.le_of_ble_eq_true rfl⟩, hts (.static yX6_get) (by decide +kernel), trivial⟩ (va_P.sub hP [6] rfl) hO rfl hl.1 (Nat.le_of_ble_eq_true rfl) dX4_canShift_5 ⟨Nat.le_of_ble_eq_true rfl, Nat.le_of_ble_eq_true rfl⟩) ?_
  refine lv_istore_n (lv' := [(3, .int (f_X6_get 40 (sP S) c)), (0, .ref a), (1, .int c), (2, .int x)]) hx hb dX4_canShift_8 rfl hl (by decide) rfl (fun ls hl => ?_)
  refine lv_aload_n hx hb dX4_canShift_9 rfl (lv_at hl 1 rfl) ?_
  refine va_get (D := G.1) (ci := 2) (v := .ref (a + 3)) (C := RX4) (T := TX4) (N := 14) hx hb hts hin4 hown hO.1 hP 0 rfl rfl 2 (by decide) hf_18 (fun _ h9 => h9) rfl dX4_canShift_10 ?_
  refine lv_iload_n hx hb dX4_canShift_13 rfl (lv_at hl 2 rfl) ?_
  refine cl_pi (rSN (As := [.ref (a + 3), .int c]) (rest := []) ⟨hx, hb, hml, hown, hts⟩ (c_X6_get l G (a + 3) 40 (sL S) c (by decide)) ⟨va_cnB 2 hts gX4_canShift_X6_get_n84 rfl rfl rfl (hO.2 _ (List.mem_of_getElem? (i := 29) rfl)) (hts (.initialized RX6) (by decide +kernel)) (by decide +kernel) ⟨Nat.le_of_ble_eq_true rfl, Nat.le_of_ble_eq_true rfl⟩, hts (.static yX6_get) (by decide +kernel), trivial⟩ (va_P.sub hP [3] rfl) hO rfl hl.1 (Nat.le_of_ble_eq_true rfl) dX4_canShift_14 ⟨Nat.le_of_ble_eq_true rfl, Nat.le_of_ble_eq_true rfl⟩) ?_
  refine lv_istore (lv' := [(4, .int (f_X6_get 40 (sL S) c)), (3, .int (f_X6_get 40 (sP S) c)), (0, .ref a), (1, .int c), (2, .int x)]) hx hb dX4_canShift_17 hl (by decide) rfl (fun ls hl => ?_)
  refine lv_aload_n hx hb dX4_canShift_19 rfl (lv_at hl 2 rfl) ?_
  refine lv_iload_n hx hb dX4_canShift_20 rfl (lv_at hl 3 rfl) ?_
  refine cl_pi (rV (As := [.int c]) (rest := []) ⟨hx, hb, hml, hown, hts⟩ (c_X4_isParked l G a S c) (cwV 1 hts gX4_canShift_X4_isParked rfl rfl rfl (by decide +kernel) ⟨Nat.le_of_ble_eq_true rfl, Nat.le_of_ble_eq_true rfl⟩) (st_recv hO hP) hP hO rfl hl.1 (Nat.le_of_ble_eq_true rfl) dX4_canShift_21 ⟨Nat.le_of_ble_eq_true rfl, Nat.le_of_ble_eq_true rfl⟩) ?_
  refine lv_if_eq (tgt := 43) hx hb dX4_canShift_24 (by decide) (fun c_6 => ?_) (fun c_6 => ?_)
  · refine lv_iconst (v := 0) hx hb dX4_canShift_43 (by decide) ?_
    have hE : f_X4_canShift S c x = 0 := (by rw [f_X4_canShift, if_pos c_6])
    exact W.zret (ty := .boolean) hx hb hr rfl (fun t ht hW => ⟨by rw [hE], ht⟩) hS.2.2 dX4_canShift_44
  · refine lv_iload_n hx hb dX4_canShift_27 rfl (lv_at hl 4 rfl) ?_
    refine cl_pi (rSN (As := [.int x]) (rest := []) ⟨hx, hb, hml, hown, hts⟩ (c_X6_isCell l G x) ⟨va_cnB 1 hts gX4_canShift_X6_isCell_n80 rfl rfl rfl (hO.2 _ (List.mem_of_getElem? (i := 28) rfl)) (hts (.initialized RX6) (by decide +kernel)) (by decide +kernel) ⟨Nat.le_of_ble_eq_true rfl, Nat.le_of_ble_eq_true rfl⟩, hts (.static yX6_isCell) (by decide +kernel), trivial⟩ trivial hO rfl hl.1 (Nat.le_of_ble_eq_true rfl) dX4_canShift_28 ⟨Nat.le_of_ble_eq_true rfl, Nat.le_of_ble_eq_true rfl⟩) ?_
    refine lv_if_eq (tgt := 43) hx hb dX4_canShift_31 (by decide) (fun c_7 => ?_) (fun c_7 => ?_)
    · refine lv_iconst (v := 0) hx hb dX4_canShift_43 (by decide) ?_
      have hE : f_X4_canShift S c x = 0 := (by rw [f_X4_canShift, if_neg c_6, if_pos c_7])
      exact W.zret (ty := .boolean) hx hb hr rfl (fun t ht hW => ⟨by rw [hE], ht⟩) hS.2.2 dX4_canShift_44
    · refine lv_iload_n hx hb dX4_canShift_34 rfl (lv_at hl 4 rfl) ?_
      refine lv_iload hx hb dX4_canShift_35 (lv_at hl 0 rfl) ?_
      refine lv_iadd hx hb dX4_canShift_37 ?_
      refine lv_bipush (v := 80) hx hb dX4_canShift_38 (by decide) ?_
      refine lv_icmp_le (tgt := 45) hx hb dX4_canShift_40 (by decide) (fun c_8 => ?_) (fun c_8 => ?_)
      · refine lv_iload_n hx hb dX4_canShift_45 rfl (lv_at hl 1 rfl) ?_
        refine lv_iload_n hx hb dX4_canShift_46 rfl (lv_at hl 4 rfl) ?_
        refine lv_icmp_le (tgt := 54) hx hb dX4_canShift_47 (by decide) (fun c_9 => ?_) (fun c_9 => ?_)
        · refine lv_iload_n hx hb dX4_canShift_54 rfl (lv_at hl 4 rfl) ?_
          refine lv_iload hx hb dX4_canShift_55 (lv_at hl 0 rfl) ?_
          refine lv_iadd hx hb dX4_canShift_57 ?_
          refine lv_istore (lv' := [(5, .int (x + (f_X6_get 40 (sL S) c))), (4, .int (f_X6_get 40 (sL S) c)), (3, .int (f_X6_get 40 (sP S) c)), (0, .ref a), (1, .int c), (2, .int x)]) hx hb dX4_canShift_58 hl (by decide) rfl (fun ls hl => ?_)
          refine lv_iload_n hx hb dX4_canShift_60 rfl (lv_at hl 2 rfl) ?_
          refine lv_iload_n hx hb dX4_canShift_61 rfl (lv_at hl 5 rfl) ?_
          refine lv_icmp_ge (tgt := 69) hx hb dX4_canShift_62 (by decide) (fun c_10 => ?_) (fun c_10 => ?_)
          · refine lv_iload_n hx hb dX4_canShift_69 rfl (lv_at hl 5 rfl) ?_
            refine lv_istore (lv' := [(6, .int x), (5, .int (x + (f_X6_get 40 (sL S) c))), (4, .int (f_X6_get 40 (sL S) c)), (3, .int (f_X6_get 40 (sP S) c)), (0, .ref a), (1, .int c), (2, .int x)]) hx hb dX4_canShift_70 hl (by decide) rfl (fun ls hl => ?_)
            have hE_11 : f_X4_canShift S c x = lp_clear S c 82 (x + (f_X6_get 40 (sL S) c)) x := (by rw [f_X4_canShift, if_neg c_6, if_neg c_7, if_pos c_8, if_pos c_9, if_pos c_10])
            exact loop72 82 (x + (f_X6_get 40 (sL S) c)) x (by assumption) (Or.inl rfl) hE_11 _ (lv_sub hl [4, 5, 6, 1, 0] rfl)
          · refine lv_iload_n hx hb dX4_canShift_65 rfl (lv_at hl 2 rfl) ?_
            refine lv_goto (tgt := 70) hx hb dX4_canShift_66 (by decide) ?_
            refine lv_istore (lv' := [(6, .int (f_X6_get 40 (sP S) c)), (5, .int (x + (f_X6_get 40 (sL S) c))), (4, .int (f_X6_get 40 (sL S) c)), (3, .int (f_X6_get 40 (sP S) c)), (0, .ref a), (1, .int c), (2, .int x)]) hx hb dX4_canShift_70 hl (by decide) rfl (fun ls hl => ?_)
            have hE_12 : f_X4_canShift S c x = lp_clear S c 82 (x + (f_X6_get 40 (sL S) c)) (f_X6_get 40 (sP S) c) := (by rw [f_X4_canShift, if_neg c_6, if_neg c_7, if_pos c_8, if_pos c_9, if_neg c_10])
            exact loop72 82 (x + (f_X6_get 40 (sL S) c)) (f_X6_get 40 (sP S) c) (by assumption) (Or.inl rfl) hE_12 _ (lv_sub hl [4, 5, 6, 1, 0] rfl)
        · refine lv_iload_n hx hb dX4_canShift_50 rfl (lv_at hl 1 rfl) ?_
          refine lv_goto (tgt := 55) hx hb dX4_canShift_51 (by decide) ?_
          refine lv_iload hx hb dX4_canShift_55 (lv_at hl 0 rfl) ?_
          refine lv_iadd hx hb dX4_canShift_57 ?_
          refine lv_istore (lv' := [(5, .int ((f_X6_get 40 (sP S) c) + (f_X6_get 40 (sL S) c))), (4, .int (f_X6_get 40 (sL S) c)), (3, .int (f_X6_get 40 (sP S) c)), (0, .ref a), (1, .int c), (2, .int x)]) hx hb dX4_canShift_58 hl (by decide) rfl (fun ls hl => ?_)
          refine lv_iload_n hx hb dX4_canShift_60 rfl (lv_at hl 2 rfl) ?_
          refine lv_iload_n hx hb dX4_canShift_61 rfl (lv_at hl 5 rfl) ?_
          refine lv_icmp_ge (tgt := 69) hx hb dX4_canShift_62 (by decide) (fun c_13 => ?_) (fun c_13 => ?_)
          · refine lv_iload_n hx hb dX4_canShift_69 rfl (lv_at hl 5 rfl) ?_
            refine lv_istore (lv' := [(6, .int x), (5, .int ((f_X6_get 40 (sP S) c) + (f_X6_get 40 (sL S) c))), (4, .int (f_X6_get 40 (sL S) c)), (3, .int (f_X6_get 40 (sP S) c)), (0, .ref a), (1, .int c), (2, .int x)]) hx hb dX4_canShift_70 hl (by decide) rfl (fun ls hl => ?_)
            have hE_14 : f_X4_canShift S c x = lp_clear S c 82 ((f_X6_get 40 (sP S) c) + (f_X6_get 40 (sL S) c)) x := (by rw [f_X4_canShift, if_neg c_6, if_neg c_7, if_pos c_8, if_neg c_9, if_pos c_13])
            exact loop72 82 ((f_X6_get 40 (sP S) c) + (f_X6_get 40 (sL S) c)) x (by assumption) (Or.inl rfl) hE_14 _ (lv_sub hl [4, 5, 6, 1, 0] rfl)
          · refine lv_iload_n hx hb dX4_canShift_65 rfl (lv_at hl 2 rfl) ?_
            refine lv_goto (tgt := 70) hx hb dX4_canShift_66 (by decide) ?_
            refine lv_istore (lv' := [(6, .int (f_X6_get 40 (sP S) c)), (5, .int ((f_X6_get 40 (sP S) c) + (f_X6_get 40 (sL S) c))), (4, .int (f_X6_get 40 (sL S) c)), (3, .int (f_X6_get 40 (sP S) c)), (0, .ref a), (1, .int c), (2, .int x)]) hx hb dX4_canShift_70 hl (by decide) rfl (fun ls hl => ?_)
            have hE_15 : f_X4_canShift S c x = lp_clear S c 82 ((f_X6_get 40 (sP S) c) + (f_X6_get 40 (sL S) c)) (f_X6_get 40 (sP S) c) := (by rw [f_X4_canShift, if_neg c_6, if_neg c_7, if_pos c_8, if_neg c_9, if_neg c_13])
            exact loop72 82 ((f_X6_get 40 (sP S) c) + (f_X6_get 40 (sL S) c)) (f_X6_get 40 (sP S) c) (by assumption) (Or.inl rfl) hE_15 _ (lv_sub hl [4, 5, 6, 1, 0] rfl)
      · refine lv_iconst (v := 0) hx hb dX4_canShift_43 (by decide) ?_
        have hE : f_X4_canShift S c x = 0 := (by rw [f_X4_canShift, if_neg c_6, if_neg c_7, if_neg c_8])
        exact W.zret (ty := .boolean) hx hb hr rfl (fun t ht hW => ⟨by rw [hE], ht⟩) hS.2.2 dX4_canShift_44

theorem b_lp_clear (S : St) (c : Int32) : ∀ (n : Nat) (en : Int32) (y : Int32), lp_clear S c n en y = 0 ∨ lp_clear S c n en y = 1 := by
  intro n
  induction n with
  | zero => intros; exact Or.inl rfl
  | succ n ih =>
    intro en y
    rw [lp_clear]
    repeat (first | exact Or.inl rfl | exact Or.inr rfl | exact ih .. | split)

theorem b_f_X4_canShift (S : St) (c : Int32) (x : Int32) : f_X4_canShift S c x = 0 ∨ f_X4_canShift S c x = 1 := by
  unfold f_X4_canShift
  repeat (first | exact Or.inl rfl | exact Or.inr rfl | exact b_lp_clear .. | split)

def h_X4_shift (S : St) (c : Int32) (x : Int32) : Int32 × St :=
  if (f_X4_canShift S c x) = 0 then ((-1), S) else
  if x ≤ (f_X6_get 40 (sP S) c) then ((f_X6_get 40 (sP S) c) - x, (pP (h_X4_occupy (h_X4_occupy S (f_X6_get 40 (sP S) c) (f_X6_get 40 (sL S) c) (-1)) x (f_X6_get 40 (sL S) c) c) c x)) else
  (x - (f_X6_get 40 (sP S) c), (pP (h_X4_occupy (h_X4_occupy S (f_X6_get 40 (sP S) c) (f_X6_get 40 (sL S) c) (-1)) x (f_X6_get 40 (sL S) c) c) c x))
set_option maxHeartbeats 4000000 in
set_option maxRecDepth 100000 in
theorem c_X4_shift (l : Launch) (G : GG) (a : Nat) (S : St) (c : Int32) (x : Int32) : Met l yX4_shift wsX4_shift ({ frames := 3, cells := 0, slots := 0, locals := 68 }) (PcH G [.ref a, .int c, .int x] (Str G a S)) (QM (some (.int ((h_X4_shift S c x).1))) (Str G a ((h_X4_shift S c x).2)) (blk a (a + 9))) 0 0 (blk a (a + 9)) := by
  refine metH (cc := cX4_shift) (maxL := 5) (ret := (some .int)) (by decide) rfl ?_
  intro p e s m below meth cd hx hb hr hml hown hts hlocks hP hO
  have hin4 : ∀ w ∈ u_ws RX4 TX4 14, w ∈ wsX4_shift := by decide +kernel
  have hf_18 := hts (.fieldLink RX4 18 "CurbCars$Street" "lengths" "[I") (by decide +kernel)
  have hf_27 := hts (.fieldLink RX4 27 "CurbCars$Street" "places" "[I") (by decide +kernel)
  have hA : ∀ q, (blk a (a + 9)) q → (blk a (a + 9)) q := fun _ h => h
  have hS : va_S (blk a (a + 9)) s.heap s.heap [] := va_S.rf
  have hl := lv_entry ([.ref a, .int c, .int x]) (n := 5) (Nat.le_of_ble_eq_true rfl)
  rw [lg_entry_eq]
  generalize (lg_sl ([.ref a, .int c, .int x]) ++ List.replicate (5 - (lg_sl ([.ref a, .int c, .int x])).length) Slot.unset).toArray = ls at hl ⊢
  have hl : lv_has ls 5 [(0, .ref a), (1, .int c), (2, .int x)] := hl
  refine lv_aload_n hx hb dX4_shift_0 rfl (lv_at hl 0 rfl) ?_
  refine lv_iload_n hx hb dX4_shift_1 rfl (lv_at hl 1 rfl) ?_
  refine lv_iload_n hx hb dX4_shift_2 rfl (lv_at hl 2 rfl) ?_
  refine cl_pi (rV (As := [.int c, .int x]) (rest := []) ⟨hx, hb, hml, hown, hts⟩ (c_X4_canShift l G a S c x) (cwV 2 hts gX4_shift_X4_canShift rfl rfl rfl (by decide +kernel) ⟨Nat.le_of_ble_eq_true rfl, Nat.le_of_ble_eq_true rfl⟩) (st_recv hO hP) hP hO rfl hl.1 (Nat.le_of_ble_eq_true rfl) dX4_shift_3 ⟨Nat.le_of_ble_eq_true rfl, Nat.le_of_ble_eq_true rfl⟩) ?_
  refine lv_if_ne (tgt := 11) hx hb dX4_shift_6 (by decide) (fun c_1 => ?_) (fun c_1 => ?_)
  · refine lv_aload_n hx hb dX4_shift_11 rfl (lv_at hl 0 rfl) ?_
    refine va_get (D := G.1) (ci := 2) (v := .ref (a + 6)) (C := RX4) (T := TX4) (N := 14) hx hb hts hin4 hown hO.1 hP 0 rfl rfl 5 (by decide) hf_27 (fun _ h9 => h9) rfl dX4_shift_12 ?_
    refine lv_iload_n hx hb dX4_shift_15 rfl (lv_at hl 1 rfl) ?_
    refine cl_pi (rSN (As := [.ref (a + 6), .int c]) (rest := []) ⟨hx, hb, hml, hown, hts⟩ (c_X6_get l G (a + 6) 40 (sP S) c (by decide)) ⟨va_cnB 2 hts gX4_shift_X6_get_n84 rfl rfl rfl (hO.2 _ (List.mem_of_getElem? (i := 29) rfl)) (hts (.initialized RX6) (by decide +kernel)) (by decide +kernel) ⟨Nat.le_of_ble_eq_true rfl, Nat.le_of_ble_eq_true rfl⟩, hts (.static yX6_get) (by decide +kernel), trivial⟩ (va_P.sub hP [6] rfl) hO rfl hl.1 (Nat.le_of_ble_eq_true rfl) dX4_shift_16 ⟨Nat.le_of_ble_eq_true rfl, Nat.le_of_ble_eq_true rfl⟩) ?_
    refine lv_istore_n (lv' := [(3, .int (f_X6_get 40 (sP S) c)), (0, .ref a), (1, .int c), (2, .int x)]) hx hb dX4_shift_19 rfl hl (by decide) rfl (fun ls hl => ?_)
    refine lv_aload_n hx hb dX4_shift_20 rfl (lv_at hl 1 rfl) ?_
    refine va_get (D := G.1) (ci := 2) (v := .ref (a + 3)) (C := RX4) (T := TX4) (N := 14) hx hb hts hin4 hown hO.1 hP 0 rfl rfl 2 (by decide) hf_18 (fun _ h9 => h9) rfl dX4_shift_21 ?_
    refine lv_iload_n hx hb dX4_shift_24 rfl (lv_at hl 2 rfl) ?_
    refine cl_pi (rSN (As := [.ref (a + 3), .int c]) (rest := []) ⟨hx, hb, hml, hown, hts⟩ (c_X6_get l G (a + 3) 40 (sL S) c (by decide)) ⟨va_cnB 2 hts gX4_shift_X6_get_n84 rfl rfl rfl (hO.2 _ (List.mem_of_getElem? (i := 29) rfl)) (hts (.initialized RX6) (by decide +kernel)) (by decide +kernel) ⟨Nat.le_of_ble_eq_true rfl, Nat.le_of_ble_eq_true rfl⟩, hts (.static yX6_get) (by decide +kernel), trivial⟩ (va_P.sub hP [3] rfl) hO rfl hl.1 (Nat.le_of_ble_eq_true rfl) dX4_shift_25 ⟨Nat.le_of_ble_eq_true rfl, Nat.le_of_ble_eq_true rfl⟩) ?_
    refine lv_istore (lv' := [(4, .int (f_X6_get 40 (sL S) c)), (3, .int (f_X6_get 40 (sP S) c)), (0, .ref a), (1, .int c), (2, .int x)]) hx hb dX4_shift_28 hl (by decide) rfl (fun ls hl => ?_)
    refine lv_aload_n hx hb dX4_shift_30 rfl (lv_at hl 2 rfl) ?_
    refine lv_iload_n hx hb dX4_shift_31 rfl (lv_at hl 1 rfl) ?_
    refine lv_iload hx hb dX4_shift_32 (lv_at hl 0 rfl) ?_
    refine lv_iconst (v := -1) hx hb dX4_shift_34 (by decide) ?_
    refine cl_mv (rV (As := [.int (f_X6_get 40 (sP S) c), .int (f_X6_get 40 (sL S) c), .int (-1)]) (rest := []) ⟨hx, hb, hml, hown, hts⟩ (c_X4_occupy l G a S (f_X6_get 40 (sP S) c) (f_X6_get 40 (sL S) c) (-1)) (cwV 3 hts gX4_shift_X4_occupy rfl rfl rfl (by decide +kernel) ⟨Nat.le_of_ble_eq_true rfl, Nat.le_of_ble_eq_true rfl⟩) (st_recv hO hP) hP hO rfl hl.1 (Nat.le_of_ble_eq_true rfl) dX4_shift_35 ⟨Nat.le_of_ble_eq_true rfl, Nat.le_of_ble_eq_true rfl⟩) hS hA (fun H locs hP1 hz hk hS => ?_)
    have hP : Str G a (h_X4_occupy S (f_X6_get 40 (sP S) c) (f_X6_get 40 (sL S) c) (-1)) H := hP1
    refine lv_aload_n hx hb dX4_shift_38 rfl (lv_at hl 2 rfl) ?_
    refine lv_iload_n hx hb dX4_shift_39 rfl (lv_at hl 4 rfl) ?_
    refine lv_iload hx hb dX4_shift_40 (lv_at hl 0 rfl) ?_
    refine lv_iload_n hx hb dX4_shift_42 rfl (lv_at hl 3 rfl) ?_
    refine cl_mv (rV (As := [.int x, .int (f_X6_get 40 (sL S) c), .int c]) (rest := []) ⟨hx, hb, hml, hown, hts⟩ (c_X4_occupy l G a (h_X4_occupy S (f_X6_get 40 (sP S) c) (f_X6_get 40 (sL S) c) (-1)) x (f_X6_get 40 (sL S) c) c) (cwV 3 hts gX4_shift_X4_occupy rfl rfl rfl (by decide +kernel) ⟨Nat.le_of_ble_eq_true rfl, Nat.le_of_ble_eq_true rfl⟩) (st_recv hO hP) hP hO rfl hl.1 (Nat.le_of_ble_eq_true rfl) dX4_shift_43 ⟨Nat.le_of_ble_eq_true rfl, Nat.le_of_ble_eq_true rfl⟩) hS hA (fun H locs hP1 hz hk hS => ?_)
    have hP : Str G a (h_X4_occupy (h_X4_occupy S (f_X6_get 40 (sP S) c) (f_X6_get 40 (sL S) c) (-1)) x (f_X6_get 40 (sL S) c) c) H := hP1
    refine lv_aload_n hx hb dX4_shift_46 rfl (lv_at hl 2 rfl) ?_
    refine va_get (D := G.1) (ci := 2) (v := .ref (a + 6)) (C := RX4) (T := TX4) (N := 14) hx hb hts hin4 hown hO.1 hP 0 rfl rfl 5 (by decide) hf_27 (fun _ h9 => h9) rfl dX4_shift_47 ?_
    refine lv_iload_n hx hb dX4_shift_50 rfl (lv_at hl 3 rfl) ?_
    refine lv_iload_n hx hb dX4_shift_51 rfl (lv_at hl 4 rfl) ?_
    refine cl_mv (rSN (As := [.ref (a + 6), .int c, .int x]) (rest := []) ⟨hx, hb, hml, hown, hts⟩ (c_X6_put l G (a + 6) 40 (sP (h_X4_occupy (h_X4_occupy S (f_X6_get 40 (sP S) c) (f_X6_get 40 (sL S) c) (-1)) x (f_X6_get 40 (sL S) c) c)) c x (by decide)) ⟨va_cnB 3 hts gX4_shift_X6_put_n88 rfl rfl rfl (hO.2 _ (List.mem_of_getElem? (i := 30) rfl)) (hts (.initialized RX6) (by decide +kernel)) (by decide +kernel) ⟨Nat.le_of_ble_eq_true rfl, Nat.le_of_ble_eq_true rfl⟩, hts (.static yX6_put) (by decide +kernel), trivial⟩ (va_P.sub hP [6] rfl) hO rfl hl.1 (Nat.le_of_ble_eq_true rfl) dX4_shift_52 ⟨Nat.le_of_ble_eq_true rfl, Nat.le_of_ble_eq_true rfl⟩) hS (fun q h => hA q (by simp only [one, blk] at *; omega)) (fun H locs hP1 hz hk hS => ?_)
    have hP : Str G a (pP (h_X4_occupy (h_X4_occupy S (f_X6_get 40 (sP S) c) (f_X6_get 40 (sL S) c) (-1)) x (f_X6_get 40 (sL S) c) c) c x) H := st_pP (st_row 6 hP rfl hP1 hk)
    refine lv_iload_n hx hb dX4_shift_55 rfl (lv_at hl 1 rfl) ?_
    refine lv_iload_n hx hb dX4_shift_56 rfl (lv_at hl 4 rfl) ?_
    refine lv_icmp_ge (tgt := 66) hx hb dX4_shift_57 (by decide) (fun c_2 => ?_) (fun c_2 => ?_)
    · refine lv_iload_n hx hb dX4_shift_66 rfl (lv_at hl 1 rfl) ?_
      refine lv_iload_n hx hb dX4_shift_67 rfl (lv_at hl 4 rfl) ?_
      refine lv_isub hx hb dX4_shift_68 ?_
      have hE : h_X4_shift S c x = ((f_X6_get 40 (sP S) c) - x, (pP (h_X4_occupy (h_X4_occupy S (f_X6_get 40 (sP S) c) (f_X6_get 40 (sL S) c) (-1)) x (f_X6_get 40 (sL S) c) c) c x)) := (by rw [h_X4_shift, if_neg c_1, if_pos c_2])
      have hE2 := snd_of hE
      exact W.iret hx hb hr (fun t ht hW => ⟨by rw [fst_of hE], by rw [ht, hE2]; exact hP, hS.F ht⟩) hS.2.2 dX4_shift_69
    · refine lv_iload_n hx hb dX4_shift_60 rfl (lv_at hl 4 rfl) ?_
      refine lv_iload_n hx hb dX4_shift_61 rfl (lv_at hl 1 rfl) ?_
      refine lv_isub hx hb dX4_shift_62 ?_
      refine lv_goto (tgt := 69) hx hb dX4_shift_63 (by decide) ?_
      have hE : h_X4_shift S c x = (x - (f_X6_get 40 (sP S) c), (pP (h_X4_occupy (h_X4_occupy S (f_X6_get 40 (sP S) c) (f_X6_get 40 (sL S) c) (-1)) x (f_X6_get 40 (sL S) c) c) c x)) := (by rw [h_X4_shift, if_neg c_1, if_neg c_2])
      have hE2 := snd_of hE
      exact W.iret hx hb hr (fun t ht hW => ⟨by rw [fst_of hE], by rw [ht, hE2]; exact hP, hS.F ht⟩) hS.2.2 dX4_shift_69
  · refine lv_iconst (v := -1) hx hb dX4_shift_9 (by decide) ?_
    have hE : h_X4_shift S c x = ((-1), S) := (by rw [h_X4_shift, if_pos c_1])
    have hE2 := snd_of hE
    exact W.iret hx hb hr (fun t ht hW => ⟨by rw [fst_of hE], by rw [ht, hE2]; exact hP, hS.F ht⟩) hS.2.2 dX4_shift_10

def f_X4_allowsHydrant (S : St) (x : Int32) (on : Int32) : Int32 :=
  if (f_X6_isCell x) = 0 then 0 else
  if on = 0 then 1 else
  if (f_X4_isFree S x) = 0 then (if (f_X6_get 80 (sC S) x) = 100 then 1 else
    0) else
  1
set_option maxHeartbeats 4000000 in
set_option maxRecDepth 100000 in
theorem c_X4_allowsHydrant (l : Launch) (G : GG) (a : Nat) (S : St) (x : Int32) (on : Int32) : Met l yX4_allowsHydrant wsX4_allowsHydrant ({ frames := 2, cells := 0, slots := 0, locals := 42 }) (PcH G [.ref a, .int x, .int on] (Str G a S)) (QP (some (.int (f_X4_allowsHydrant S x on)))) 0 0 noA := by
  refine metH (cc := cX4_allowsHydrant) (maxL := 3) (ret := (some .boolean)) (by decide) rfl ?_
  intro p e s m below meth cd hx hb hr hml hown hts hlocks hP hO
  have hin4 : ∀ w ∈ u_ws RX4 TX4 14, w ∈ wsX4_allowsHydrant := by decide +kernel
  have hf_9 := hts (.fieldLink RX4 9 "CurbCars$Street" "cells" "[I") (by decide +kernel)
  have hS : va_S noA s.heap s.heap [] := va_S.rf
  have hl := lv_entry ([.ref a, .int x, .int on]) (n := 3) (Nat.le_of_ble_eq_true rfl)
  rw [lg_entry_eq]
  generalize (lg_sl ([.ref a, .int x, .int on]) ++ List.replicate (3 - (lg_sl ([.ref a, .int x, .int on])).length) Slot.unset).toArray = ls at hl ⊢
  have hl : lv_has ls 3 [(0, .ref a), (1, .int x), (2, .int on)] := hl
  refine lv_iload_n hx hb dX4_allowsHydrant_0 rfl (lv_at hl 1 rfl) ?_
  refine cl_pi (rSN (As := [.int x]) (rest := []) ⟨hx, hb, hml, hown, hts⟩ (c_X6_isCell l G x) ⟨va_cnB 1 hts gX4_allowsHydrant_X6_isCell_n80 rfl rfl rfl (hO.2 _ (List.mem_of_getElem? (i := 28) rfl)) (hts (.initialized RX6) (by decide +kernel)) (by decide +kernel) ⟨Nat.le_of_ble_eq_true rfl, Nat.le_of_ble_eq_true rfl⟩, hts (.static yX6_isCell) (by decide +kernel), trivial⟩ trivial hO rfl hl.1 (Nat.le_of_ble_eq_true rfl) dX4_allowsHydrant_1 ⟨Nat.le_of_ble_eq_true rfl, Nat.le_of_ble_eq_true rfl⟩) ?_
  refine lv_if_eq (tgt := 36) hx hb dX4_allowsHydrant_4 (by decide) (fun c_1 => ?_) (fun c_1 => ?_)
  · refine lv_iconst (v := 0) hx hb dX4_allowsHydrant_36 (by decide) ?_
    have hE : f_X4_allowsHydrant S x on = 0 := (by rw [f_X4_allowsHydrant, if_pos c_1])
    exact W.zret (ty := .boolean) hx hb hr rfl (fun t ht hW => ⟨by rw [hE], ht⟩) hS.2.2 dX4_allowsHydrant_37
  · refine lv_iload_n hx hb dX4_allowsHydrant_7 rfl (lv_at hl 2 rfl) ?_
    refine lv_if_eq (tgt := 32) hx hb dX4_allowsHydrant_8 (by decide) (fun c_2 => ?_) (fun c_2 => ?_)
    · refine lv_iconst (v := 1) hx hb dX4_allowsHydrant_32 (by decide) ?_
      refine lv_goto (tgt := 37) hx hb dX4_allowsHydrant_33 (by decide) ?_
      have hE : f_X4_allowsHydrant S x on = 1 := (by rw [f_X4_allowsHydrant, if_neg c_1, if_pos c_2])
      exact W.zret (ty := .boolean) hx hb hr rfl (fun t ht hW => ⟨by rw [hE], ht⟩) hS.2.2 dX4_allowsHydrant_37
    · refine lv_aload_n hx hb dX4_allowsHydrant_11 rfl (lv_at hl 0 rfl) ?_
      refine lv_iload_n hx hb dX4_allowsHydrant_12 rfl (lv_at hl 1 rfl) ?_
      refine cl_pi (rV (As := [.int x]) (rest := []) ⟨hx, hb, hml, hown, hts⟩ (c_X4_isFree l G a S x) (cwV 1 hts gX4_allowsHydrant_X4_isFree rfl rfl rfl (by decide +kernel) ⟨Nat.le_of_ble_eq_true rfl, Nat.le_of_ble_eq_true rfl⟩) (st_recv hO hP) hP hO rfl hl.1 (Nat.le_of_ble_eq_true rfl) dX4_allowsHydrant_13 ⟨Nat.le_of_ble_eq_true rfl, Nat.le_of_ble_eq_true rfl⟩) ?_
      refine lv_if_ne (tgt := 32) hx hb dX4_allowsHydrant_16 (by decide) (fun c_3 => ?_) (fun c_3 => ?_)
      · refine lv_iconst (v := 1) hx hb dX4_allowsHydrant_32 (by decide) ?_
        refine lv_goto (tgt := 37) hx hb dX4_allowsHydrant_33 (by decide) ?_
        have hE : f_X4_allowsHydrant S x on = 1 := (by rw [f_X4_allowsHydrant, if_neg c_1, if_neg c_2, if_neg c_3])
        exact W.zret (ty := .boolean) hx hb hr rfl (fun t ht hW => ⟨by rw [hE], ht⟩) hS.2.2 dX4_allowsHydrant_37
      · refine lv_aload_n hx hb dX4_allowsHydrant_19 rfl (lv_at hl 0 rfl) ?_
        refine va_get (D := G.1) (ci := 2) (v := .ref (a + 1)) (C := RX4) (T := TX4) (N := 14) hx hb hts hin4 hown hO.1 hP 0 rfl rfl 0 (by decide) hf_9 (fun _ h9 => h9) rfl dX4_allowsHydrant_20 ?_
        refine lv_iload_n hx hb dX4_allowsHydrant_23 rfl (lv_at hl 1 rfl) ?_
        refine cl_pi (rSN (As := [.ref (a + 1), .int x]) (rest := []) ⟨hx, hb, hml, hown, hts⟩ (c_X6_get l G (a + 1) 80 (sC S) x (by decide)) ⟨va_cnB 2 hts gX4_allowsHydrant_X6_get_n84 rfl rfl rfl (hO.2 _ (List.mem_of_getElem? (i := 29) rfl)) (hts (.initialized RX6) (by decide +kernel)) (by decide +kernel) ⟨Nat.le_of_ble_eq_true rfl, Nat.le_of_ble_eq_true rfl⟩, hts (.static yX6_get) (by decide +kernel), trivial⟩ (va_P.sub hP [1] rfl) hO rfl hl.1 (Nat.le_of_ble_eq_true rfl) dX4_allowsHydrant_24 ⟨Nat.le_of_ble_eq_true rfl, Nat.le_of_ble_eq_true rfl⟩) ?_
        refine lv_bipush (v := 100) hx hb dX4_allowsHydrant_27 (by decide) ?_
        refine lv_icmp_ne (tgt := 36) hx hb dX4_allowsHydrant_29 (by decide) (fun c_4 => ?_) (fun c_4 => ?_)
        · refine lv_iconst (v := 0) hx hb dX4_allowsHydrant_36 (by decide) ?_
          have hE : f_X4_allowsHydrant S x on = 0 := (by rw [f_X4_allowsHydrant, if_neg c_1, if_neg c_2, if_pos c_3, if_neg c_4])
          exact W.zret (ty := .boolean) hx hb hr rfl (fun t ht hW => ⟨by rw [hE], ht⟩) hS.2.2 dX4_allowsHydrant_37
        · refine lv_iconst (v := 1) hx hb dX4_allowsHydrant_32 (by decide) ?_
          refine lv_goto (tgt := 37) hx hb dX4_allowsHydrant_33 (by decide) ?_
          have hE : f_X4_allowsHydrant S x on = 1 := (by rw [f_X4_allowsHydrant, if_neg c_1, if_neg c_2, if_pos c_3, if_pos c_4])
          exact W.zret (ty := .boolean) hx hb hr rfl (fun t ht hW => ⟨by rw [hE], ht⟩) hS.2.2 dX4_allowsHydrant_37

theorem b_f_X4_allowsHydrant (S : St) (x : Int32) (on : Int32) : f_X4_allowsHydrant S x on = 0 ∨ f_X4_allowsHydrant S x on = 1 := by
  unfold f_X4_allowsHydrant
  repeat (first | exact Or.inl rfl | exact Or.inr rfl | split)

def h_X4_putHydrant (S : St) (x : Int32) (on : Int32) : Int32 × St :=
  if (f_X4_allowsHydrant S x on) = 0 then ((-1), S) else
  if on = 0 then (if (f_X6_get 80 (sC S) x) = 100 then (f_X4_cellsWith (h_X4_occupy S x 1 (-1)) 100, (h_X4_occupy S x 1 (-1))) else
    (f_X4_cellsWith S 100, S)) else
  (f_X4_cellsWith (h_X4_occupy S x 1 100) 100, (h_X4_occupy S x 1 100))
set_option maxHeartbeats 4000000 in
set_option maxRecDepth 100000 in
theorem c_X4_putHydrant (l : Launch) (G : GG) (a : Nat) (S : St) (x : Int32) (on : Int32) : Met l yX4_putHydrant wsX4_putHydrant ({ frames := 3, cells := 0, slots := 0, locals := 64 }) (PcH G [.ref a, .int x, .int on] (Str G a S)) (QM (some (.int ((h_X4_putHydrant S x on).1))) (Str G a ((h_X4_putHydrant S x on).2)) (blk a (a + 9))) 0 0 (blk a (a + 9)) := by
  refine metH (cc := cX4_putHydrant) (maxL := 3) (ret := (some .int)) (by decide) rfl ?_
  intro p e s m below meth cd hx hb hr hml hown hts hlocks hP hO
  have hin4 : ∀ w ∈ u_ws RX4 TX4 14, w ∈ wsX4_putHydrant := by decide +kernel
  have hf_9 := hts (.fieldLink RX4 9 "CurbCars$Street" "cells" "[I") (by decide +kernel)
  have hA : ∀ q, (blk a (a + 9)) q → (blk a (a + 9)) q := fun _ h => h
  have hS : va_S (blk a (a + 9)) s.heap s.heap [] := va_S.rf
  have hl := lv_entry ([.ref a, .int x, .int on]) (n := 3) (Nat.le_of_ble_eq_true rfl)
  rw [lg_entry_eq]
  generalize (lg_sl ([.ref a, .int x, .int on]) ++ List.replicate (3 - (lg_sl ([.ref a, .int x, .int on])).length) Slot.unset).toArray = ls at hl ⊢
  have hl : lv_has ls 3 [(0, .ref a), (1, .int x), (2, .int on)] := hl
  refine lv_aload_n hx hb dX4_putHydrant_0 rfl (lv_at hl 0 rfl) ?_
  refine lv_iload_n hx hb dX4_putHydrant_1 rfl (lv_at hl 1 rfl) ?_
  refine lv_iload_n hx hb dX4_putHydrant_2 rfl (lv_at hl 2 rfl) ?_
  refine cl_pi (rV (As := [.int x, .int on]) (rest := []) ⟨hx, hb, hml, hown, hts⟩ (c_X4_allowsHydrant l G a S x on) (cwV 2 hts gX4_putHydrant_X4_allowsHydrant rfl rfl rfl (by decide +kernel) ⟨Nat.le_of_ble_eq_true rfl, Nat.le_of_ble_eq_true rfl⟩) (st_recv hO hP) hP hO rfl hl.1 (Nat.le_of_ble_eq_true rfl) dX4_putHydrant_3 ⟨Nat.le_of_ble_eq_true rfl, Nat.le_of_ble_eq_true rfl⟩) ?_
  refine lv_if_ne (tgt := 11) hx hb dX4_putHydrant_6 (by decide) (fun c_1 => ?_) (fun c_1 => ?_)
  · refine lv_iload_n hx hb dX4_putHydrant_11 rfl (lv_at hl 2 rfl) ?_
    refine lv_if_eq (tgt := 26) hx hb dX4_putHydrant_12 (by decide) (fun c_2 => ?_) (fun c_2 => ?_)
    · refine lv_aload_n hx hb dX4_putHydrant_26 rfl (lv_at hl 0 rfl) ?_
      refine va_get (D := G.1) (ci := 2) (v := .ref (a + 1)) (C := RX4) (T := TX4) (N := 14) hx hb hts hin4 hown hO.1 hP 0 rfl rfl 0 (by decide) hf_9 (fun _ h9 => h9) rfl dX4_putHydrant_27 ?_
      refine lv_iload_n hx hb dX4_putHydrant_30 rfl (lv_at hl 1 rfl) ?_
      refine cl_pi (rSN (As := [.ref (a + 1), .int x]) (rest := []) ⟨hx, hb, hml, hown, hts⟩ (c_X6_get l G (a + 1) 80 (sC S) x (by decide)) ⟨va_cnB 2 hts gX4_putHydrant_X6_get_n84 rfl rfl rfl (hO.2 _ (List.mem_of_getElem? (i := 29) rfl)) (hts (.initialized RX6) (by decide +kernel)) (by decide +kernel) ⟨Nat.le_of_ble_eq_true rfl, Nat.le_of_ble_eq_true rfl⟩, hts (.static yX6_get) (by decide +kernel), trivial⟩ (va_P.sub hP [1] rfl) hO rfl hl.1 (Nat.le_of_ble_eq_true rfl) dX4_putHydrant_31 ⟨Nat.le_of_ble_eq_true rfl, Nat.le_of_ble_eq_true rfl⟩) ?_
      refine lv_bipush (v := 100) hx hb dX4_putHydrant_34 (by decide) ?_
      refine lv_icmp_ne (tgt := 46) hx hb dX4_putHydrant_36 (by decide) (fun c_3 => ?_) (fun c_3 => ?_)
      · refine lv_aload_n hx hb dX4_putHydrant_46 rfl (lv_at hl 0 rfl) ?_
        refine lv_bipush (v := 100) hx hb dX4_putHydrant_47 (by decide) ?_
        refine cl_pi (rV (As := [.int 100]) (rest := []) ⟨hx, hb, hml, hown, hts⟩ (c_X4_cellsWith l G a S 100) (cwV 1 hts gX4_putHydrant_X4_cellsWith rfl rfl rfl (by decide +kernel) ⟨Nat.le_of_ble_eq_true rfl, Nat.le_of_ble_eq_true rfl⟩) (st_recv hO hP) hP hO rfl hl.1 (Nat.le_of_ble_eq_true rfl) dX4_putHydrant_49 ⟨Nat.le_of_ble_eq_true rfl, Nat.le_of_ble_eq_true rfl⟩) ?_
        have hE : h_X4_putHydrant S x on = (f_X4_cellsWith S 100, S) := (by rw [h_X4_putHydrant, if_neg c_1, if_pos c_2, if_neg c_3])
        have hE2 := snd_of hE
        exact W.iret hx hb hr (fun t ht hW => ⟨by rw [fst_of hE], by rw [ht, hE2]; exact hP, hS.F ht⟩) hS.2.2 dX4_putHydrant_52
      · refine lv_aload_n hx hb dX4_putHydrant_39 rfl (lv_at hl 0 rfl) ?_
        refine lv_iload_n hx hb dX4_putHydrant_40 rfl (lv_at hl 1 rfl) ?_
        refine lv_iconst (v := 1) hx hb dX4_putHydrant_41 (by decide) ?_
        refine lv_iconst (v := -1) hx hb dX4_putHydrant_42 (by decide) ?_
        refine cl_mv (rV (As := [.int x, .int 1, .int (-1)]) (rest := []) ⟨hx, hb, hml, hown, hts⟩ (c_X4_occupy l G a S x 1 (-1)) (cwV 3 hts gX4_putHydrant_X4_occupy rfl rfl rfl (by decide +kernel) ⟨Nat.le_of_ble_eq_true rfl, Nat.le_of_ble_eq_true rfl⟩) (st_recv hO hP) hP hO rfl hl.1 (Nat.le_of_ble_eq_true rfl) dX4_putHydrant_43 ⟨Nat.le_of_ble_eq_true rfl, Nat.le_of_ble_eq_true rfl⟩) hS hA (fun H locs hP1 hz hk hS => ?_)
        have hP : Str G a (h_X4_occupy S x 1 (-1)) H := hP1
        refine lv_aload_n hx hb dX4_putHydrant_46 rfl (lv_at hl 0 rfl) ?_
        refine lv_bipush (v := 100) hx hb dX4_putHydrant_47 (by decide) ?_
        refine cl_pi (rV (As := [.int 100]) (rest := []) ⟨hx, hb, hml, hown, hts⟩ (c_X4_cellsWith l G a (h_X4_occupy S x 1 (-1)) 100) (cwV 1 hts gX4_putHydrant_X4_cellsWith rfl rfl rfl (by decide +kernel) ⟨Nat.le_of_ble_eq_true rfl, Nat.le_of_ble_eq_true rfl⟩) (st_recv hO hP) hP hO rfl hl.1 (Nat.le_of_ble_eq_true rfl) dX4_putHydrant_49 ⟨Nat.le_of_ble_eq_true rfl, Nat.le_of_ble_eq_true rfl⟩) ?_
        have hE : h_X4_putHydrant S x on = (f_X4_cellsWith (h_X4_occupy S x 1 (-1)) 100, (h_X4_occupy S x 1 (-1))) := (by rw [h_X4_putHydrant, if_neg c_1, if_pos c_2, if_pos c_3])
        have hE2 := snd_of hE
        exact W.iret hx hb hr (fun t ht hW => ⟨by rw [fst_of hE], by rw [ht, hE2]; exact hP, hS.F ht⟩) hS.2.2 dX4_putHydrant_52
    · refine lv_aload_n hx hb dX4_putHydrant_15 rfl (lv_at hl 0 rfl) ?_
      refine lv_iload_n hx hb dX4_putHydrant_16 rfl (lv_at hl 1 rfl) ?_
      refine lv_iconst (v := 1) hx hb dX4_putHydrant_17 (by decide) ?_
      refine lv_bipush (v := 100) hx hb dX4_putHydrant_18 (by decide) ?_
      refine cl_mv (rV (As := [.int x, .int 1, .int 100]) (rest := []) ⟨hx, hb, hml, hown, hts⟩ (c_X4_occupy l G a S x 1 100) (cwV 3 hts gX4_putHydrant_X4_occupy rfl rfl rfl (by decide +kernel) ⟨Nat.le_of_ble_eq_true rfl, Nat.le_of_ble_eq_true rfl⟩) (st_recv hO hP) hP hO rfl hl.1 (Nat.le_of_ble_eq_true rfl) dX4_putHydrant_20 ⟨Nat.le_of_ble_eq_true rfl, Nat.le_of_ble_eq_true rfl⟩) hS hA (fun H locs hP1 hz hk hS => ?_)
      have hP : Str G a (h_X4_occupy S x 1 100) H := hP1
      refine lv_goto (tgt := 46) hx hb dX4_putHydrant_23 (by decide) ?_
      refine lv_aload_n hx hb dX4_putHydrant_46 rfl (lv_at hl 0 rfl) ?_
      refine lv_bipush (v := 100) hx hb dX4_putHydrant_47 (by decide) ?_
      refine cl_pi (rV (As := [.int 100]) (rest := []) ⟨hx, hb, hml, hown, hts⟩ (c_X4_cellsWith l G a (h_X4_occupy S x 1 100) 100) (cwV 1 hts gX4_putHydrant_X4_cellsWith rfl rfl rfl (by decide +kernel) ⟨Nat.le_of_ble_eq_true rfl, Nat.le_of_ble_eq_true rfl⟩) (st_recv hO hP) hP hO rfl hl.1 (Nat.le_of_ble_eq_true rfl) dX4_putHydrant_49 ⟨Nat.le_of_ble_eq_true rfl, Nat.le_of_ble_eq_true rfl⟩) ?_
      have hE : h_X4_putHydrant S x on = (f_X4_cellsWith (h_X4_occupy S x 1 100) 100, (h_X4_occupy S x 1 100)) := (by rw [h_X4_putHydrant, if_neg c_1, if_neg c_2])
      have hE2 := snd_of hE
      exact W.iret hx hb hr (fun t ht hW => ⟨by rw [fst_of hE], by rw [ht, hE2]; exact hP, hS.F ht⟩) hS.2.2 dX4_putHydrant_52
  · refine lv_iconst (v := -1) hx hb dX4_putHydrant_9 (by decide) ?_
    have hE : h_X4_putHydrant S x on = ((-1), S) := (by rw [h_X4_putHydrant, if_pos c_1])
    have hE2 := snd_of hE
    exact W.iret hx hb hr (fun t ht hW => ⟨by rw [fst_of hE], by rw [ht, hE2]; exact hP, hS.F ht⟩) hS.2.2 dX4_putHydrant_10

def h_X4_goRoundOnce (S : St) (c : Int32) : St :=
  if ((f_X6_get 40 (sR S) c) + 1) < (sE (pR S c ((f_X6_get 40 (sR S) c) + 1))) then (pR S c ((f_X6_get 40 (sR S) c) + 1)) else
  (pT (pR S c ((f_X6_get 40 (sR S) c) + 1)) c 3)
set_option maxHeartbeats 4000000 in
set_option maxRecDepth 100000 in
theorem c_X4_goRoundOnce (l : Launch) (G : GG) (a : Nat) (S : St) (c : Int32) : Met l yX4_goRoundOnce wsX4_goRoundOnce ({ frames := 1, cells := 0, slots := 0, locals := 22 }) (PcH G [.ref a, .int c] (Str G a S)) (QM none (Str G a (h_X4_goRoundOnce S c)) (blk a (a + 9))) 0 0 (blk a (a + 9)) := by
  refine metH (cc := cX4_goRoundOnce) (maxL := 3) (ret := none) (by decide) rfl ?_
  intro p e s m below meth cd hx hb hr hml hown hts hlocks hP hO
  have hin4 : ∀ w ∈ u_ws RX4 TX4 14, w ∈ wsX4_goRoundOnce := by decide +kernel
  have hf_24 := hts (.fieldLink RX4 24 "CurbCars$Street" "states" "[I") (by decide +kernel)
  have hf_33 := hts (.fieldLink RX4 33 "CurbCars$Street" "roundMinutes" "[I") (by decide +kernel)
  have hf_65 := hts (.fieldLink RX4 65 "CurbCars$Street" "patience" "I") (by decide +kernel)
  have hA : ∀ q, (blk a (a + 9)) q → (blk a (a + 9)) q := fun _ h => h
  have hS : va_S (blk a (a + 9)) s.heap s.heap [] := va_S.rf
  have hl := lv_entry ([.ref a, .int c]) (n := 3) (Nat.le_of_ble_eq_true rfl)
  rw [lg_entry_eq]
  generalize (lg_sl ([.ref a, .int c]) ++ List.replicate (3 - (lg_sl ([.ref a, .int c])).length) Slot.unset).toArray = ls at hl ⊢
  have hl : lv_has ls 3 [(0, .ref a), (1, .int c)] := hl
  refine lv_aload_n hx hb dX4_goRoundOnce_0 rfl (lv_at hl 0 rfl) ?_
  refine va_get (D := G.1) (ci := 2) (v := .ref (a + 8)) (C := RX4) (T := TX4) (N := 14) hx hb hts hin4 hown hO.1 hP 0 rfl rfl 7 (by decide) hf_33 (fun _ h9 => h9) rfl dX4_goRoundOnce_1 ?_
  refine lv_iload_n hx hb dX4_goRoundOnce_4 rfl (lv_at hl 1 rfl) ?_
  refine cl_pi (rSN (As := [.ref (a + 8), .int c]) (rest := []) ⟨hx, hb, hml, hown, hts⟩ (c_X6_get l G (a + 8) 40 (sR S) c (by decide)) ⟨va_cnB 2 hts gX4_goRoundOnce_X6_get_n84 rfl rfl rfl (hO.2 _ (List.mem_of_getElem? (i := 29) rfl)) (hts (.initialized RX6) (by decide +kernel)) (by decide +kernel) ⟨Nat.le_of_ble_eq_true rfl, Nat.le_of_ble_eq_true rfl⟩, hts (.static yX6_get) (by decide +kernel), trivial⟩ (va_P.sub hP [8] rfl) hO rfl hl.1 (Nat.le_of_ble_eq_true rfl) dX4_goRoundOnce_5 ⟨Nat.le_of_ble_eq_true rfl, Nat.le_of_ble_eq_true rfl⟩) ?_
  refine lv_iconst (v := 1) hx hb dX4_goRoundOnce_8 (by decide) ?_
  refine lv_iadd hx hb dX4_goRoundOnce_9 ?_
  refine lv_istore_n (lv' := [(2, .int ((f_X6_get 40 (sR S) c) + 1)), (0, .ref a), (1, .int c)]) hx hb dX4_goRoundOnce_10 rfl hl (by decide) rfl (fun ls hl => ?_)
  refine lv_aload_n hx hb dX4_goRoundOnce_11 rfl (lv_at hl 1 rfl) ?_
  refine va_get (D := G.1) (ci := 2) (v := .ref (a + 8)) (C := RX4) (T := TX4) (N := 14) hx hb hts hin4 hown hO.1 hP 0 rfl rfl 7 (by decide) hf_33 (fun _ h9 => h9) rfl dX4_goRoundOnce_12 ?_
  refine lv_iload_n hx hb dX4_goRoundOnce_15 rfl (lv_at hl 2 rfl) ?_
  refine lv_iload_n hx hb dX4_goRoundOnce_16 rfl (lv_at hl 0 rfl) ?_
  refine cl_mv (rSN (As := [.ref (a + 8), .int c, .int ((f_X6_get 40 (sR S) c) + 1)]) (rest := []) ⟨hx, hb, hml, hown, hts⟩ (c_X6_put l G (a + 8) 40 (sR S) c ((f_X6_get 40 (sR S) c) + 1) (by decide)) ⟨va_cnB 3 hts gX4_goRoundOnce_X6_put_n88 rfl rfl rfl (hO.2 _ (List.mem_of_getElem? (i := 30) rfl)) (hts (.initialized RX6) (by decide +kernel)) (by decide +kernel) ⟨Nat.le_of_ble_eq_true rfl, Nat.le_of_ble_eq_true rfl⟩, hts (.static yX6_put) (by decide +kernel), trivial⟩ (va_P.sub hP [8] rfl) hO rfl hl.1 (Nat.le_of_ble_eq_true rfl) dX4_goRoundOnce_17 ⟨Nat.le_of_ble_eq_true rfl, Nat.le_of_ble_eq_true rfl⟩) hS (fun q h => hA q (by simp only [one, blk] at *; omega)) (fun H locs hP1 hz hk hS => ?_)
  have hP : Str G a (pR S c ((f_X6_get 40 (sR S) c) + 1)) H := st_pR (st_row 8 hP rfl hP1 hk)
  refine lv_iload_n hx hb dX4_goRoundOnce_20 rfl (lv_at hl 0 rfl) ?_
  refine lv_aload_n hx hb dX4_goRoundOnce_21 rfl (lv_at hl 1 rfl) ?_
  refine va_get (D := G.1) (ci := 2) (v := .int (sE (pR S c ((f_X6_get 40 (sR S) c) + 1)))) (C := RX4) (T := TX4) (N := 14) hx hb hts hin4 hown hO.1 hP 0 rfl rfl 13 (by decide) hf_65 (fun _ h9 => h9) rfl dX4_goRoundOnce_22 ?_
  refine lv_icmp_lt (tgt := 37) hx hb dX4_goRoundOnce_25 (by decide) (fun c_1 => ?_) (fun c_1 => ?_)
  · have hE : h_X4_goRoundOnce S c = (pR S c ((f_X6_get 40 (sR S) c) + 1)) := (by rw [h_X4_goRoundOnce, if_pos c_1])
    exact W.vret hx hb hr (fun t ht hW => ⟨rfl, by rw [ht, hE]; exact hP, hS.F ht⟩) hS.2.2 dX4_goRoundOnce_37
  · refine lv_aload_n hx hb dX4_goRoundOnce_28 rfl (lv_at hl 1 rfl) ?_
    refine va_get (D := G.1) (ci := 2) (v := .ref (a + 5)) (C := RX4) (T := TX4) (N := 14) hx hb hts hin4 hown hO.1 hP 0 rfl rfl 4 (by decide) hf_24 (fun _ h9 => h9) rfl dX4_goRoundOnce_29 ?_
    refine lv_iload_n hx hb dX4_goRoundOnce_32 rfl (lv_at hl 2 rfl) ?_
    refine lv_iconst (v := 3) hx hb dX4_goRoundOnce_33 (by decide) ?_
    refine cl_mv (rSN (As := [.ref (a + 5), .int c, .int 3]) (rest := []) ⟨hx, hb, hml, hown, hts⟩ (c_X6_put l G (a + 5) 40 (sT (pR S c ((f_X6_get 40 (sR S) c) + 1))) c 3 (by decide)) ⟨va_cnB 3 hts gX4_goRoundOnce_X6_put_n88 rfl rfl rfl (hO.2 _ (List.mem_of_getElem? (i := 30) rfl)) (hts (.initialized RX6) (by decide +kernel)) (by decide +kernel) ⟨Nat.le_of_ble_eq_true rfl, Nat.le_of_ble_eq_true rfl⟩, hts (.static yX6_put) (by decide +kernel), trivial⟩ (va_P.sub hP [5] rfl) hO rfl hl.1 (Nat.le_of_ble_eq_true rfl) dX4_goRoundOnce_34 ⟨Nat.le_of_ble_eq_true rfl, Nat.le_of_ble_eq_true rfl⟩) hS (fun q h => hA q (by simp only [one, blk] at *; omega)) (fun H locs hP1 hz hk hS => ?_)
    have hP : Str G a (pT (pR S c ((f_X6_get 40 (sR S) c) + 1)) c 3) H := st_pT (st_row 5 hP rfl hP1 hk)
    have hE : h_X4_goRoundOnce S c = (pT (pR S c ((f_X6_get 40 (sR S) c) + 1)) c 3) := (by rw [h_X4_goRoundOnce, if_neg c_1])
    exact W.vret hx hb hr (fun t ht hW => ⟨rfl, by rw [ht, hE]; exact hP, hS.F ht⟩) hS.2.2 dX4_goRoundOnce_37
