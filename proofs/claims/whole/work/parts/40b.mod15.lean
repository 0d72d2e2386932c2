def h_X7_readCommand (M : Mo) : Int32 × Mo :=
  if ((mT M) (mS M).toNatClampNeg) = 99 then (if ((h_X7_figures ((h_X7_figures (oS M ((mS M) + 1)) 0 1 2 8).2) ((h_X7_figures (oS M ((mS M) + 1)) 0 1 2 8).1) 2 1 99).1) = (-1) then (0, (h_X7_figures ((h_X7_figures (oS M ((mS M) + 1)) 0 1 2 8).2) ((h_X7_figures (oS M ((mS M) + 1)) 0 1 2 8).1) 2 1 99).2) else
    if 40 ≤ ((mR ((h_X7_figures ((h_X7_figures (oS M ((mS M) + 1)) 0 1 2 8).2) ((h_X7_figures (oS M ((mS M) + 1)) 0 1 2 8).1) 2 1 99).2)) 0) then (1, (h_X7_done ((h_X7_figures ((h_X7_figures (oS M ((mS M) + 1)) 0 1 2 8).2) ((h_X7_figures (oS M ((mS M) + 1)) 0 1 2 8).1) 2 1 99).2) 0).2) else
    if ((h_X7_comeOn (mR ((h_X7_figures ((h_X7_figures (oS M ((mS M) + 1)) 0 1 2 8).2) ((h_X7_figures (oS M ((mS M) + 1)) 0 1 2 8).1) 2 1 99).2)) ((h_X7_figures (oS M ((mS M) + 1)) 0 1 2 8).1) ((h_X7_figures ((h_X7_figures (oS M ((mS M) + 1)) 0 1 2 8).2) ((h_X7_figures (oS M ((mS M) + 1)) 0 1 2 8).1) 2 1 99).1)).1) < 0 then (1, (h_X7_done (oR ((h_X7_figures ((h_X7_figures (oS M ((mS M) + 1)) 0 1 2 8).2) ((h_X7_figures (oS M ((mS M) + 1)) 0 1 2 8).1) 2 1 99).2) ((h_X7_comeOn (mR ((h_X7_figures ((h_X7_figures (oS M ((mS M) + 1)) 0 1 2 8).2) ((h_X7_figures (oS M ((mS M) + 1)) 0 1 2 8).1) 2 1 99).2)) ((h_X7_figures (oS M ((mS M) + 1)) 0 1 2 8).1) ((h_X7_figures ((h_X7_figures (oS M ((mS M) + 1)) 0 1 2 8).2) ((h_X7_figures (oS M ((mS M) + 1)) 0 1 2 8).1) 2 1 99).1)).2)) 0).2) else
    (1, (h_X7_done (oR ((h_X7_figures ((h_X7_figures (oS M ((mS M) + 1)) 0 1 2 8).2) ((h_X7_figures (oS M ((mS M) + 1)) 0 1 2 8).1) 2 1 99).2) ((h_X7_comeOn (mR ((h_X7_figures ((h_X7_figures (oS M ((mS M) + 1)) 0 1 2 8).2) ((h_X7_figures (oS M ((mS M) + 1)) 0 1 2 8).1) 2 1 99).2)) ((h_X7_figures (oS M ((mS M) + 1)) 0 1 2 8).1) ((h_X7_figures ((h_X7_figures (oS M ((mS M) + 1)) 0 1 2 8).2) ((h_X7_figures (oS M ((mS M) + 1)) 0 1 2 8).1) 2 1 99).1)).2)) 1).2)) else
  if ((mT M) (mS M).toNatClampNeg) = 104 then ((h_X7_readHydrant (oS M ((mS M) + 1))).1, (h_X7_readHydrant (oS M ((mS M) + 1))).2) else
  if ((mT M) (mS M).toNatClampNeg) = 108 then (if ((h_X7_carSign (oS M ((mS M) + 1))).1) = (-1) then (0, (h_X7_carSign (oS M ((mS M) + 1))).2) else
    if (f_X7_isParked (mR ((h_X7_carSign (oS M ((mS M) + 1))).2)) ((h_X7_carSign (oS M ((mS M) + 1))).1)) = 0 then (1, (h_X7_done ((h_X7_carSign (oS M ((mS M) + 1))).2) 0).2) else
    if ((h_X7_goes (mR ((h_X7_carSign (oS M ((mS M) + 1))).2)) (((h_X7_carSign (oS M ((mS M) + 1))).1).toNatClampNeg) 2).1) < 0 then (1, (h_X7_done (oR ((h_X7_carSign (oS M ((mS M) + 1))).2) ((h_X7_goes (mR ((h_X7_carSign (oS M ((mS M) + 1))).2)) (((h_X7_carSign (oS M ((mS M) + 1))).1).toNatClampNeg) 2).2)) 0).2) else
    (1, (h_X7_done (oR ((h_X7_carSign (oS M ((mS M) + 1))).2) ((h_X7_goes (mR ((h_X7_carSign (oS M ((mS M) + 1))).2)) (((h_X7_carSign (oS M ((mS M) + 1))).1).toNatClampNeg) 2).2)) 1).2)) else
  if ((mT M) (mS M).toNatClampNeg) = 109 then (if ((h_X7_cellSign ((h_X7_carSign (oS M ((mS M) + 1))).2) ((h_X7_carSign (oS M ((mS M) + 1))).1)).1) = (-1) then (0, (h_X7_cellSign ((h_X7_carSign (oS M ((mS M) + 1))).2) ((h_X7_carSign (oS M ((mS M) + 1))).1)).2) else
    if (f_X7_isCar (mR ((h_X7_cellSign ((h_X7_carSign (oS M ((mS M) + 1))).2) ((h_X7_carSign (oS M ((mS M) + 1))).1)).2)) ((h_X7_carSign (oS M ((mS M) + 1))).1)) = 0 then (1, (h_X7_done ((h_X7_cellSign ((h_X7_carSign (oS M ((mS M) + 1))).2) ((h_X7_carSign (oS M ((mS M) + 1))).1)).2) 0).2) else
    if (f_X7_canMove (mR ((h_X7_cellSign ((h_X7_carSign (oS M ((mS M) + 1))).2) ((h_X7_carSign (oS M ((mS M) + 1))).1)).2)) (((h_X7_carSign (oS M ((mS M) + 1))).1).toNatClampNeg) (((h_X7_cellSign ((h_X7_carSign (oS M ((mS M) + 1))).2) ((h_X7_carSign (oS M ((mS M) + 1))).1)).1).toNatClampNeg)) = 0 then (1, (h_X7_done ((h_X7_cellSign ((h_X7_carSign (oS M ((mS M) + 1))).2) ((h_X7_carSign (oS M ((mS M) + 1))).1)).2) 0).2) else
    if ((h_X7_moveOn (mR ((h_X7_cellSign ((h_X7_carSign (oS M ((mS M) + 1))).2) ((h_X7_carSign (oS M ((mS M) + 1))).1)).2)) (((h_X7_carSign (oS M ((mS M) + 1))).1).toNatClampNeg) (((h_X7_cellSign ((h_X7_carSign (oS M ((mS M) + 1))).2) ((h_X7_carSign (oS M ((mS M) + 1))).1)).1).toNatClampNeg)).1) < 0 then (1, (h_X7_done (oR ((h_X7_cellSign ((h_X7_carSign (oS M ((mS M) + 1))).2) ((h_X7_carSign (oS M ((mS M) + 1))).1)).2) ((h_X7_moveOn (mR ((h_X7_cellSign ((h_X7_carSign (oS M ((mS M) + 1))).2) ((h_X7_carSign (oS M ((mS M) + 1))).1)).2)) (((h_X7_carSign (oS M ((mS M) + 1))).1).toNatClampNeg) (((h_X7_cellSign ((h_X7_carSign (oS M ((mS M) + 1))).2) ((h_X7_carSign (oS M ((mS M) + 1))).1)).1).toNatClampNeg)).2)) 0).2) else
    (1, (h_X7_done (oR ((h_X7_cellSign ((h_X7_carSign (oS M ((mS M) + 1))).2) ((h_X7_carSign (oS M ((mS M) + 1))).1)).2) ((h_X7_moveOn (mR ((h_X7_cellSign ((h_X7_carSign (oS M ((mS M) + 1))).2) ((h_X7_carSign (oS M ((mS M) + 1))).1)).2)) (((h_X7_carSign (oS M ((mS M) + 1))).1).toNatClampNeg) (((h_X7_cellSign ((h_X7_carSign (oS M ((mS M) + 1))).2) ((h_X7_carSign (oS M ((mS M) + 1))).1)).1).toNatClampNeg)).2)) 1).2)) else
  if ((mT M) (mS M).toNatClampNeg) = 112 then (if ((h_X7_figures (oS M ((mS M) + 1)) 0 2 1 60).1) = (-1) then (0, (h_X7_figures (oS M ((mS M) + 1)) 0 2 1 60).2) else
    if ((h_X7_minutesOn (mR ((h_X7_figures (oS M ((mS M) + 1)) 0 2 1 60).2)) ((h_X7_figures (oS M ((mS M) + 1)) 0 2 1 60).1)).1) < 0 then (1, (h_X7_done (oR ((h_X7_figures (oS M ((mS M) + 1)) 0 2 1 60).2) ((h_X7_minutesOn (mR ((h_X7_figures (oS M ((mS M) + 1)) 0 2 1 60).2)) ((h_X7_figures (oS M ((mS M) + 1)) 0 2 1 60).1)).2)) 0).2) else
    (1, (h_X7_done (oR ((h_X7_figures (oS M ((mS M) + 1)) 0 2 1 60).2) ((h_X7_minutesOn (mR ((h_X7_figures (oS M ((mS M) + 1)) 0 2 1 60).2)) ((h_X7_figures (oS M ((mS M) + 1)) 0 2 1 60).1)).2)) 1).2)) else
  if ((mT M) (mS M).toNatClampNeg) = 114 then (if ((h_X7_figures (oS M ((mS M) + 1)) 0 1 0 2).1) = (-1) then (0, (h_X7_figures (oS M ((mS M) + 1)) 0 1 0 2).2) else
    if ((h_X7_change (mR ((h_X7_figures (oS M ((mS M) + 1)) 0 1 0 2).2)) 0 ((h_X7_figures (oS M ((mS M) + 1)) 0 1 0 2).1)).1) < 0 then (1, (h_X7_done (oR ((h_X7_figures (oS M ((mS M) + 1)) 0 1 0 2).2) ((h_X7_change (mR ((h_X7_figures (oS M ((mS M) + 1)) 0 1 0 2).2)) 0 ((h_X7_figures (oS M ((mS M) + 1)) 0 1 0 2).1)).2)) 0).2) else
    (1, (h_X7_done (oR ((h_X7_figures (oS M ((mS M) + 1)) 0 1 0 2).2) ((h_X7_change (mR ((h_X7_figures (oS M ((mS M) + 1)) 0 1 0 2).2)) 0 ((h_X7_figures (oS M ((mS M) + 1)) 0 1 0 2).1)).2)) 1).2)) else
  if ((mT M) (mS M).toNatClampNeg) = 116 then (if ((h_X7_carSign (oS M ((mS M) + 1))).1) = (-1) then (0, (h_X7_carSign (oS M ((mS M) + 1))).2) else
    if (f_X7_isParked (mR ((h_X7_carSign (oS M ((mS M) + 1))).2)) ((h_X7_carSign (oS M ((mS M) + 1))).1)) = 0 then (1, (h_X7_done ((h_X7_carSign (oS M ((mS M) + 1))).2) 0).2) else
    if ((h_X7_goes (mR ((h_X7_carSign (oS M ((mS M) + 1))).2)) (((h_X7_carSign (oS M ((mS M) + 1))).1).toNatClampNeg) 4).1) < 0 then (1, (h_X7_done (oR ((h_X7_carSign (oS M ((mS M) + 1))).2) ((h_X7_goes (mR ((h_X7_carSign (oS M ((mS M) + 1))).2)) (((h_X7_carSign (oS M ((mS M) + 1))).1).toNatClampNeg) 4).2)) 0).2) else
    (1, (h_X7_done (oR ((h_X7_carSign (oS M ((mS M) + 1))).2) ((h_X7_goes (mR ((h_X7_carSign (oS M ((mS M) + 1))).2)) (((h_X7_carSign (oS M ((mS M) + 1))).1).toNatClampNeg) 4).2)) 1).2)) else
  (0, (oS (oS M ((mS M) + 1)) ((mS (oS M ((mS M) + 1))) - 1)))
set_option maxHeartbeats 40000000 in
set_option maxRecDepth 100000 in
theorem c_X7_readCommand (l : Launch) (G : GG) (b : Nat) (M : Mo) (hTI : TI M) (hsz : sp M < zz M) (hRI : RI (mR M)) : Met l yX7_readCommand wsX7_readCommand ({ frames := 7, cells := 0, slots := 0, locals := 158 }) (PcH G [.ref b, .ref (b + 3)] (Md G b M)) (QM (some (.int ((h_X7_readCommand M).1))) (Md G b ((h_X7_readCommand M).2)) (blk b (b + 8))) 0 0 (blk b (b + 8)) := by
  refine metH (cc := cX7_readCommand) (maxL := 5) (ret := (some .boolean)) (by decide) rfl ?_
  intro p e s m below meth cd hx hb hr hml hown hts hlocks hP hO
  have hin7 : ∀ w ∈ u_ws RX7 TX7 12, w ∈ wsX7_readCommand := by decide +kernel
  have hf_7 := hts (.fieldLink RX7 7 "CurbCarsModel" "text" "[I") (by decide +kernel)
  have hf_140 := hts (.fieldLink RX7 140 "CurbCarsModel" "spot" "I") (by decide +kernel)
  have hA : ∀ q, (blk b (b + 8)) q → (blk b (b + 8)) q := fun _ h => h
  have hS : va_S (blk b (b + 8)) s.heap s.heap [] := va_S.rf
  have hl := lv_entry ([.ref b, .ref (b + 3)]) (n := 5) (Nat.le_of_ble_eq_true rfl)
  rw [lg_entry_eq]
  generalize (lg_sl ([.ref b, .ref (b + 3)]) ++ List.replicate (5 - (lg_sl ([.ref b, .ref (b + 3)])).length) Slot.unset).toArray = ls at hl ⊢
  have hl : lv_has ls 5 [(0, .ref b), (1, .ref (b + 3))] := hl
  refine lv_aload_n hx hb dX7_readCommand_0 rfl (lv_at hl 0 rfl) ?_
  refine va_get (D := G.1) (ci := 5) (v := .ref (b + 1)) (C := RX7) (T := TX7) (N := 12) hx hb hts hin7 hown hO.1 hP 0 rfl rfl 1 (by decide) hf_7 (fun _ h9 => h9) rfl dX7_readCommand_1 ?_
  refine lv_aload_n hx hb dX7_readCommand_4 rfl (lv_at hl 0 rfl) ?_
  refine va_get (D := G.1) (ci := 5) (v := .int (mS M)) (C := RX7) (T := TX7) (N := 12) hx hb hts hin7 hown hO.1 hP 0 rfl rfl 10 (by decide) hf_140 (fun _ h9 => h9) rfl dX7_readCommand_5 ?_
  refine va_iald hx hb hO.1 hP 1 0 rfl rfl (hTI.rd hsz) dX7_readCommand_8 ?_
  refine lv_istore_n (lv' := [(2, .int ((mT M) (mS M).toNatClampNeg)), (0, .ref b), (1, .ref (b + 3))]) hx hb dX7_readCommand_9 rfl hl (by decide) rfl (fun ls hl => ?_)
  refine lv_aload_n hx hb dX7_readCommand_10 rfl (lv_at hl 1 rfl) ?_
  refine lv_dup hx hb dX7_readCommand_11 rfl ?_
  refine va_get (D := G.1) (ci := 5) (v := .int (mS M)) (C := RX7) (T := TX7) (N := 12) hx hb hts hin7 hown hO.1 hP 0 rfl rfl 10 (by decide) hf_140 (fun _ h9 => h9) rfl dX7_readCommand_12 ?_
  refine lv_iconst (v := 1) hx hb dX7_readCommand_15 (by decide) ?_
  refine lv_iadd hx hb dX7_readCommand_16 ?_
  refine va_put (D := G.1) (ci := 5) (v := .int ((mS M) + 1)) (ty := .int) (C := RX7) (T := TX7) (N := 12) hx hb hts hin7 tyX7 tyX7_ok nmX7 hown hO.1 hP (md_D b M hA) hS 0 rfl rfl 10 (by decide) hf_140 (fun _ h9 => h9) rfl (by decide +kernel) rfl rfl (Nat.le_of_ble_eq_true rfl) dX7_readCommand_17 (fun H locs hP hD hS => ?_)
  have hP : Md G b (oS M ((mS M) + 1)) H := md_pS hP
  refine lv_iload_n hx hb dX7_readCommand_20 rfl (lv_at hl 0 rfl) ?_
  by_cases c_1 : ((mT M) (mS M).toNatClampNeg) = 99
  · refine lv_tableIn (off := 93) (tgt := 114) hx hb dX7_readCommand_21 (by rw [c_1]; decide) (by rw [c_1]; decide) (by rw [c_1]; decide +kernel) (by decide) ?_
    refine lv_aload_n hx hb dX7_readCommand_114 rfl (lv_at hl 1 rfl) ?_
    refine lv_iconst (v := 0) hx hb dX7_readCommand_115 (by decide) ?_
    refine lv_iconst (v := 1) hx hb dX7_readCommand_116 (by decide) ?_
    refine lv_iconst (v := 2) hx hb dX7_readCommand_117 (by decide) ?_
    refine lv_bipush (v := 8) hx hb dX7_readCommand_118 (by decide) ?_
    refine cl_mi (rV (As := [.int 0, .int 1, .int 2, .int 8]) (rest := []) ⟨hx, hb, hml, hown, hts⟩ (c_X7_figures l G b (oS M ((mS M) + 1)) 0 1 2 8 (by first | exact hTI | exact (hTI.up hsz).1 | (repeat (first | with_reducible exact hTI | with_reducible exact (hTI.up hsz).1 | with_reducible apply fig_TI | with_reducible apply car_TI | with_reducible apply cel_TI)))) (cwV 4 hts gX7_readCommand_X7_figures rfl rfl rfl (by decide +kernel) ⟨Nat.le_of_ble_eq_true rfl, Nat.le_of_ble_eq_true rfl⟩) (md_recv hO hP) hP hO rfl hl.1 (Nat.le_of_ble_eq_true rfl) dX7_readCommand_120 ⟨Nat.le_of_ble_eq_true rfl, Nat.le_of_ble_eq_true rfl⟩) hS hA (fun H locs hP1 hz hk hS => ?_)
    have hP : Md G b ((h_X7_figures (oS M ((mS M) + 1)) 0 1 2 8).2) H := hP1
    refine lv_istore_n (lv' := [(3, .int ((h_X7_figures (oS M ((mS M) + 1)) 0 1 2 8).1)), (2, .int ((mT M) (mS M).toNatClampNeg)), (0, .ref b), (1, .ref (b + 3))]) hx hb dX7_readCommand_123 rfl hl (by decide) rfl (fun ls hl => ?_)
    refine lv_aload_n hx hb dX7_readCommand_124 rfl (lv_at hl 2 rfl) ?_
    refine lv_iload_n hx hb dX7_readCommand_125 rfl (lv_at hl 0 rfl) ?_
    refine lv_iconst (v := 2) hx hb dX7_readCommand_126 (by decide) ?_
    refine lv_iconst (v := 1) hx hb dX7_readCommand_127 (by decide) ?_
    refine lv_bipush (v := 99) hx hb dX7_readCommand_128 (by decide) ?_
    refine cl_mi (rV (As := [.int ((h_X7_figures (oS M ((mS M) + 1)) 0 1 2 8).1), .int 2, .int 1, .int 99]) (rest := []) ⟨hx, hb, hml, hown, hts⟩ (c_X7_figures l G b ((h_X7_figures (oS M ((mS M) + 1)) 0 1 2 8).2) ((h_X7_figures (oS M ((mS M) + 1)) 0 1 2 8).1) 2 1 99 (by first | exact hTI | exact (hTI.up hsz).1 | (repeat (first | with_reducible exact hTI | with_reducible exact (hTI.up hsz).1 | with_reducible apply fig_TI | with_reducible apply car_TI | with_reducible apply cel_TI)))) (cwV 4 hts gX7_readCommand_X7_figures rfl rfl rfl (by decide +kernel) ⟨Nat.le_of_ble_eq_true rfl, Nat.le_of_ble_eq_true rfl⟩) (md_recv hO hP) hP hO rfl hl.1 (Nat.le_of_ble_eq_true rfl) dX7_readCommand_130 ⟨Nat.le_of_ble_eq_true rfl, Nat.le_of_ble_eq_true rfl⟩) hS hA (fun H locs hP1 hz hk hS => ?_)
    have hP : Md G b ((h_X7_figures ((h_X7_figures (oS M ((mS M) + 1)) 0 1 2 8).2) ((h_X7_figures (oS M ((mS M) + 1)) 0 1 2 8).1) 2 1 99).2) H := hP1
    refine lv_istore (lv' := [(4, .int ((h_X7_figures ((h_X7_figures (oS M ((mS M) + 1)) 0 1 2 8).2) ((h_X7_figures (oS M ((mS M) + 1)) 0 1 2 8).1) 2 1 99).1)), (3, .int ((h_X7_figures (oS M ((mS M) + 1)) 0 1 2 8).1)), (2, .int ((mT M) (mS M).toNatClampNeg)), (0, .ref b), (1, .ref (b + 3))]) hx hb dX7_readCommand_133 hl (by decide) rfl (fun ls hl => ?_)
    refine lv_iload hx hb dX7_readCommand_135 (lv_at hl 0 rfl) ?_
    refine lv_iconst (v := -1) hx hb dX7_readCommand_137 (by decide) ?_
    refine lv_icmp_eq (tgt := 175) hx hb dX7_readCommand_138 (by decide) (fun c_2 => ?_) (fun c_2 => ?_)
    · refine lv_iconst (v := 0) hx hb dX7_readCommand_175 (by decide) ?_
      have hE : h_X7_readCommand M = (0, (h_X7_figures ((h_X7_figures (oS M ((mS M) + 1)) 0 1 2 8).2) ((h_X7_figures (oS M ((mS M) + 1)) 0 1 2 8).1) 2 1 99).2) := (by rw [h_X7_readCommand, if_pos c_1, if_pos c_2])
      have hE2 := snd_of hE
      exact W.zret (ty := .boolean) hx hb hr rfl (fun t ht hW => ⟨by rw [fst_of hE], by rw [ht, hE2]; exact hP, hS.F ht⟩) hS.2.2 dX7_readCommand_176
    · refine lv_aload_n hx hb dX7_readCommand_141 rfl (lv_at hl 3 rfl) ?_
      refine lv_aload_n hx hb dX7_readCommand_142 rfl (lv_at hl 4 rfl) ?_
      refine lv_iconst (v := 0) hx hb dX7_readCommand_143 (by decide) ?_
      refine iald_n (k := 0) hx hb hO.1 hP 3 0 rfl rfl (by omega) (by decide) dX7_readCommand_144 ?_
      refine lv_bipush (v := 40) hx hb dX7_readCommand_145 (by decide) ?_
      refine lv_icmp_ge (tgt := 164) hx hb dX7_readCommand_147 (by decide) (fun c_3 => ?_) (fun c_3 => ?_)
      · refine lv_iconst (v := 0) hx hb dX7_readCommand_164 (by decide) ?_
        refine cl_mi (rV (As := [.int 0]) (rest := []) ⟨hx, hb, hml, hown, hts⟩ (c_X7_done l G b ((h_X7_figures ((h_X7_figures (oS M ((mS M) + 1)) 0 1 2 8).2) ((h_X7_figures (oS M ((mS M) + 1)) 0 1 2 8).1) 2 1 99).2) 0) (cwV 1 hts gX7_readCommand_X7_done rfl rfl rfl (by decide +kernel) ⟨Nat.le_of_ble_eq_true rfl, Nat.le_of_ble_eq_true rfl⟩) (md_recv hO hP) hP hO rfl hl.1 (Nat.le_of_ble_eq_true rfl) dX7_readCommand_165 ⟨Nat.le_of_ble_eq_true rfl, Nat.le_of_ble_eq_true rfl⟩) hS hA (fun H locs hP1 hz hk hS => ?_)
        have hP : Md G b ((h_X7_done ((h_X7_figures ((h_X7_figures (oS M ((mS M) + 1)) 0 1 2 8).2) ((h_X7_figures (oS M ((mS M) + 1)) 0 1 2 8).1) 2 1 99).2) 0).2) H := hP1
        refine lv_if_eq (tgt := 175) hx hb dX7_readCommand_168 (by decide) (fun c_4 => ?_) (fun c_4 => ?_)
        · exact absurd c_4 (done_1 _ _)
        · refine lv_iconst (v := 1) hx hb dX7_readCommand_171 (by decide) ?_
          refine lv_goto (tgt := 176) hx hb dX7_readCommand_172 (by decide) ?_
          have hE : h_X7_readCommand M = (1, (h_X7_done ((h_X7_figures ((h_X7_figures (oS M ((mS M) + 1)) 0 1 2 8).2) ((h_X7_figures (oS M ((mS M) + 1)) 0 1 2 8).1) 2 1 99).2) 0).2) := (by rw [h_X7_readCommand, if_pos c_1, if_neg c_2, if_pos c_3])
          have hE2 := snd_of hE
          exact W.zret (ty := .boolean) hx hb hr rfl (fun t ht hW => ⟨by rw [fst_of hE], by rw [ht, hE2]; exact hP, hS.F ht⟩) hS.2.2 dX7_readCommand_176
      · refine lv_aload_n hx hb dX7_readCommand_150 rfl (lv_at hl 4 rfl) ?_
        refine lv_iload_n hx hb dX7_readCommand_151 rfl (lv_at hl 1 rfl) ?_
        refine lv_iload hx hb dX7_readCommand_152 (lv_at hl 0 rfl) ?_
        refine cl_mi (rS (As := [.ref (b + 3), .int ((h_X7_figures (oS M ((mS M) + 1)) 0 1 2 8).1), .int ((h_X7_figures ((h_X7_figures (oS M ((mS M) + 1)) 0 1 2 8).2) ((h_X7_figures (oS M ((mS M) + 1)) 0 1 2 8).1) 2 1 99).1)]) (rest := [.ref b]) ⟨hx, hb, hml, hown, hts⟩ (c_X7_comeOn l G (b + 3) (mR ((h_X7_figures ((h_X7_figures (oS M ((mS M) + 1)) 0 1 2 8).2) ((h_X7_figures (oS M ((mS M) + 1)) 0 1 2 8).1) 2 1 99).2)) ((h_X7_figures (oS M ((mS M) + 1)) 0 1 2 8).1) ((h_X7_figures ((h_X7_figures (oS M ((mS M) + 1)) 0 1 2 8).2) ((h_X7_figures (oS M ((mS M) + 1)) 0 1 2 8).1) 2 1 99).1) (RI.m (by simp only [fig_R, car_R, cel_R, mR_oS]; exact hRI)).1 (gm40 (by simp only [fig_R, car_R, cel_R, mR_oS]; exact hRI) (by first | with_reducible assumption | assumption)) (fig_len8 (by first | with_reducible assumption | assumption)) (RI.R3 (by simp only [fig_R, car_R, cel_R, mR_oS]; exact hRI))) (va_cwS 3 hts gX7_readCommand_X7_comeOn rfl rfl rfl (by decide +kernel) ⟨Nat.le_of_ble_eq_true rfl, Nat.le_of_ble_eq_true rfl⟩) (va_P.sub hP [3] rfl) hO rfl hl.1 (Nat.le_of_ble_eq_true rfl) dX7_readCommand_154 ⟨Nat.le_of_ble_eq_true rfl, Nat.le_of_ble_eq_true rfl⟩) hS (fun q h => hA q (by simp only [one, blk] at *; omega)) (fun H locs hP1 hz hk hS => ?_)
        have hP : Md G b (oR ((h_X7_figures ((h_X7_figures (oS M ((mS M) + 1)) 0 1 2 8).2) ((h_X7_figures (oS M ((mS M) + 1)) 0 1 2 8).1) 2 1 99).2) ((h_X7_comeOn (mR ((h_X7_figures ((h_X7_figures (oS M ((mS M) + 1)) 0 1 2 8).2) ((h_X7_figures (oS M ((mS M) + 1)) 0 1 2 8).1) 2 1 99).2)) ((h_X7_figures (oS M ((mS M) + 1)) 0 1 2 8).1) ((h_X7_figures ((h_X7_figures (oS M ((mS M) + 1)) 0 1 2 8).2) ((h_X7_figures (oS M ((mS M) + 1)) 0 1 2 8).1) 2 1 99).1)).2)) H := md_pR (mo_row 3 hP rfl hP1 hk)
        refine lv_if_lt (tgt := 164) hx hb dX7_readCommand_157 (by decide) (fun c_5 => ?_) (fun c_5 => ?_)
        · refine lv_iconst (v := 0) hx hb dX7_readCommand_164 (by decide) ?_
          refine cl_mi (rV (As := [.int 0]) (rest := []) ⟨hx, hb, hml, hown, hts⟩ (c_X7_done l G b (oR ((h_X7_figures ((h_X7_figures (oS M ((mS M) + 1)) 0 1 2 8).2) ((h_X7_figures (oS M ((mS M) + 1)) 0 1 2 8).1) 2 1 99).2) ((h_X7_comeOn (mR ((h_X7_figures ((h_X7_figures (oS M ((mS M) + 1)) 0 1 2 8).2) ((h_X7_figures (oS M ((mS M) + 1)) 0 1 2 8).1) 2 1 99).2)) ((h_X7_figures (oS M ((mS M) + 1)) 0 1 2 8).1) ((h_X7_figures ((h_X7_figures (oS M ((mS M) + 1)) 0 1 2 8).2) ((h_X7_figures (oS M ((mS M) + 1)) 0 1 2 8).1) 2 1 99).1)).2)) 0) (cwV 1 hts gX7_readCommand_X7_done rfl rfl rfl (by decide +kernel) ⟨Nat.le_of_ble_eq_true rfl, Nat.le_of_ble_eq_true rfl⟩) (md_recv hO hP) hP hO rfl hl.1 (Nat.le_of_ble_eq_true rfl) dX7_readCommand_165 ⟨Nat.le_of_ble_eq_true rfl, Nat.le_of_ble_eq_true rfl⟩) hS hA (fun H locs hP1 hz hk hS => ?_)
          have hP : Md G b ((h_X7_done (oR ((h_X7_figures ((h_X7_figures (oS M ((mS M) + 1)) 0 1 2 8).2) ((h_X7_figures (oS M ((mS M) + 1)) 0 1 2 8).1) 2 1 99).2) ((h_X7_comeOn (mR ((h_X7_figures ((h_X7_figures (oS M ((mS M) + 1)) 0 1 2 8).2) ((h_X7_figures (oS M ((mS M) + 1)) 0 1 2 8).1) 2 1 99).2)) ((h_X7_figures (oS M ((mS M) + 1)) 0 1 2 8).1) ((h_X7_figures ((h_X7_figures (oS M ((mS M) + 1)) 0 1 2 8).2) ((h_X7_figures (oS M ((mS M) + 1)) 0 1 2 8).1) 2 1 99).1)).2)) 0).2) H := hP1
          refine lv_if_eq (tgt := 175) hx hb dX7_readCommand_168 (by decide) (fun c_6 => ?_) (fun c_6 => ?_)
          · exact absurd c_6 (done_1 _ _)
          · refine lv_iconst (v := 1) hx hb dX7_readCommand_171 (by decide) ?_
            refine lv_goto (tgt := 176) hx hb dX7_readCommand_172 (by decide) ?_
            have hE : h_X7_readCommand M = (1, (h_X7_done (oR ((h_X7_figures ((h_X7_figures (oS M ((mS M) + 1)) 0 1 2 8).2) ((h_X7_figures (oS M ((mS M) + 1)) 0 1 2 8).1) 2 1 99).2) ((h_X7_comeOn (mR ((h_X7_figures ((h_X7_figures (oS M ((mS M) + 1)) 0 1 2 8).2) ((h_X7_figures (oS M ((mS M) + 1)) 0 1 2 8).1) 2 1 99).2)) ((h_X7_figures (oS M ((mS M) + 1)) 0 1 2 8).1) ((h_X7_figures ((h_X7_figures (oS M ((mS M) + 1)) 0 1 2 8).2) ((h_X7_figures (oS M ((mS M) + 1)) 0 1 2 8).1) 2 1 99).1)).2)) 0).2) := (by rw [h_X7_readCommand, if_pos c_1, if_neg c_2, if_neg c_3, if_pos c_5])
            have hE2 := snd_of hE
            exact W.zret (ty := .boolean) hx hb hr rfl (fun t ht hW => ⟨by rw [fst_of hE], by rw [ht, hE2]; exact hP, hS.F ht⟩) hS.2.2 dX7_readCommand_176
        · refine lv_iconst (v := 1) hx hb dX7_readCommand_160 (by decide) ?_
          refine lv_goto (tgt := 165) hx hb dX7_readCommand_161 (by decide) ?_
          refine cl_mi (rV (As := [.int 1]) (rest := []) ⟨hx, hb, hml, hown, hts⟩ (c_X7_done l G b (oR ((h_X7_figures ((h_X7_figures (oS M ((mS M) + 1)) 0 1 2 8).2) ((h_X7_figures (oS M ((mS M) + 1)) 0 1 2 8).1) 2 1 99).2) ((h_X7_comeOn (mR ((h_X7_figures ((h_X7_figures (oS M ((mS M) + 1)) 0 1 2 8).2) ((h_X7_figures (oS M ((mS M) + 1)) 0 1 2 8).1) 2 1 99).2)) ((h_X7_figures (oS M ((mS M) + 1)) 0 1 2 8).1) ((h_X7_figures ((h_X7_figures (oS M ((mS M) + 1)) 0 1 2 8).2) ((h_X7_figures (oS M ((mS M) + 1)) 0 1 2 8).1) 2 1 99).1)).2)) 1) (cwV 1 hts gX7_readCommand_X7_done rfl rfl rfl (by decide +kernel) ⟨Nat.le_of_ble_eq_true rfl, Nat.le_of_ble_eq_true rfl⟩) (md_recv hO hP) hP hO rfl hl.1 (Nat.le_of_ble_eq_true rfl) dX7_readCommand_165 ⟨Nat.le_of_ble_eq_true rfl, Nat.le_of_ble_eq_true rfl⟩) hS hA (fun H locs hP1 hz hk hS => ?_)
          have hP : Md G b ((h_X7_done (oR ((h_X7_figures ((h_X7_figures (oS M ((mS M) + 1)) 0 1 2 8).2) ((h_X7_figures (oS M ((mS M) + 1)) 0 1 2 8).1) 2 1 99).2) ((h_X7_comeOn (mR ((h_X7_figures ((h_X7_figures (oS M ((mS M) + 1)) 0 1 2 8).2) ((h_X7_figures (oS M ((mS M) + 1)) 0 1 2 8).1) 2 1 99).2)) ((h_X7_figures (oS M ((mS M) + 1)) 0 1 2 8).1) ((h_X7_figures ((h_X7_figures (oS M ((mS M) + 1)) 0 1 2 8).2) ((h_X7_figures (oS M ((mS M) + 1)) 0 1 2 8).1) 2 1 99).1)).2)) 1).2) H := hP1
          refine lv_if_eq (tgt := 175) hx hb dX7_readCommand_168 (by decide) (fun c_7 => ?_) (fun c_7 => ?_)
          · exact absurd c_7 (done_1 _ _)
          · refine lv_iconst (v := 1) hx hb dX7_readCommand_171 (by decide) ?_
            refine lv_goto (tgt := 176) hx hb dX7_readCommand_172 (by decide) ?_
            have hE : h_X7_readCommand M = (1, (h_X7_done (oR ((h_X7_figures ((h_X7_figures (oS M ((mS M) + 1)) 0 1 2 8).2) ((h_X7_figures (oS M ((mS M) + 1)) 0 1 2 8).1) 2 1 99).2) ((h_X7_comeOn (mR ((h_X7_figures ((h_X7_figures (oS M ((mS M) + 1)) 0 1 2 8).2) ((h_X7_figures (oS M ((mS M) + 1)) 0 1 2 8).1) 2 1 99).2)) ((h_X7_figures (oS M ((mS M) + 1)) 0 1 2 8).1) ((h_X7_figures ((h_X7_figures (oS M ((mS M) + 1)) 0 1 2 8).2) ((h_X7_figures (oS M ((mS M) + 1)) 0 1 2 8).1) 2 1 99).1)).2)) 1).2) := (by rw [h_X7_readCommand, if_pos c_1, if_neg c_2, if_neg c_3, if_neg c_5])
            have hE2 := snd_of hE
            exact W.zret (ty := .boolean) hx hb hr rfl (fun t ht hW => ⟨by rw [fst_of hE], by rw [ht, hE2]; exact hP, hS.F ht⟩) hS.2.2 dX7_readCommand_176
  by_cases c_8 : ((mT M) (mS M).toNatClampNeg) = 104
  · refine lv_tableIn (off := 87) (tgt := 108) hx hb dX7_readCommand_21 (by rw [c_8]; decide) (by rw [c_8]; decide) (by rw [c_8]; decide +kernel) (by decide) ?_
    refine lv_aload_n hx hb dX7_readCommand_108 rfl (lv_at hl 1 rfl) ?_
    refine lv_aload_n hx hb dX7_readCommand_109 rfl (lv_at hl 2 rfl) ?_
    refine cl_mi (rV (As := [.ref (b + 3)]) (rest := []) ⟨hx, hb, hml, hown, hts⟩ (c_X7_readHydrant l G b (oS M ((mS M) + 1)) (by first | exact hTI | exact (hTI.up hsz).1 | (repeat (first | with_reducible exact hTI | with_reducible exact (hTI.up hsz).1 | with_reducible apply fig_TI | with_reducible apply car_TI | with_reducible apply cel_TI))) (by simp only [fig_R, car_R, cel_R, mR_oS]; exact hRI)) (cwV 1 hts gX7_readCommand_X7_readHydrant rfl rfl rfl (by decide +kernel) ⟨Nat.le_of_ble_eq_true rfl, Nat.le_of_ble_eq_true rfl⟩) (md_recv hO hP) hP hO rfl hl.1 (Nat.le_of_ble_eq_true rfl) dX7_readCommand_110 ⟨Nat.le_of_ble_eq_true rfl, Nat.le_of_ble_eq_true rfl⟩) hS hA (fun H locs hP1 hz hk hS => ?_)
    have hP : Md G b ((h_X7_readHydrant (oS M ((mS M) + 1))).2) H := hP1
    have hE : h_X7_readCommand M = ((h_X7_readHydrant (oS M ((mS M) + 1))).1, (h_X7_readHydrant (oS M ((mS M) + 1))).2) := (by rw [h_X7_readCommand, if_neg c_1, if_pos c_8])
    have hE2 := snd_of hE
    exact W.zret (ty := .boolean) hx hb hr (nar_b (b_h_X7_readHydrant ..)) (fun t ht hW => ⟨by rw [fst_of hE], by rw [ht, hE2]; exact hP, hS.F ht⟩) hS.2.2 dX7_readCommand_113
  by_cases c_9 : ((mT M) (mS M).toNatClampNeg) = 108
  · refine lv_tableIn (off := 156) (tgt := 177) hx hb dX7_readCommand_21 (by rw [c_9]; decide) (by rw [c_9]; decide) (by rw [c_9]; decide +kernel) (by decide) ?_
    refine lv_aload_n hx hb dX7_readCommand_177 rfl (lv_at hl 1 rfl) ?_
    refine cl_mi (rV (As := []) (rest := []) ⟨hx, hb, hml, hown, hts⟩ (c_X7_carSign l G b (oS M ((mS M) + 1)) (by first | exact hTI | exact (hTI.up hsz).1 | (repeat (first | with_reducible exact hTI | with_reducible exact (hTI.up hsz).1 | with_reducible apply fig_TI | with_reducible apply car_TI | with_reducible apply cel_TI)))) (cwV 0 hts gX7_readCommand_X7_carSign rfl rfl rfl (by decide +kernel) ⟨Nat.le_of_ble_eq_true rfl, Nat.le_of_ble_eq_true rfl⟩) (md_recv hO hP) hP hO rfl hl.1 (Nat.le_of_ble_eq_true rfl) dX7_readCommand_178 ⟨Nat.le_of_ble_eq_true rfl, Nat.le_of_ble_eq_true rfl⟩) hS hA (fun H locs hP1 hz hk hS => ?_)
    have hP : Md G b ((h_X7_carSign (oS M ((mS M) + 1))).2) H := hP1
    refine lv_istore_n (lv' := [(3, .int ((h_X7_carSign (oS M ((mS M) + 1))).1)), (2, .int ((mT M) (mS M).toNatClampNeg)), (0, .ref b), (1, .ref (b + 3))]) hx hb dX7_readCommand_181 rfl hl (by decide) rfl (fun ls hl => ?_)
    refine lv_iload_n hx hb dX7_readCommand_182 rfl (lv_at hl 0 rfl) ?_
    refine lv_iconst (v := -1) hx hb dX7_readCommand_183 (by decide) ?_
    refine lv_icmp_eq (tgt := 230) hx hb dX7_readCommand_184 (by decide) (fun c_10 => ?_) (fun c_10 => ?_)
    · refine lv_iconst (v := 0) hx hb dX7_readCommand_230 (by decide) ?_
      have hE : h_X7_readCommand M = (0, (h_X7_carSign (oS M ((mS M) + 1))).2) := (by rw [h_X7_readCommand, if_neg c_1, if_neg c_8, if_pos c_9, if_pos c_10])
      have hE2 := snd_of hE
      exact W.zret (ty := .boolean) hx hb hr rfl (fun t ht hW => ⟨by rw [fst_of hE], by rw [ht, hE2]; exact hP, hS.F ht⟩) hS.2.2 dX7_readCommand_231
    · refine lv_aload_n hx hb dX7_readCommand_187 rfl (lv_at hl 2 rfl) ?_
      refine lv_aload_n hx hb dX7_readCommand_188 rfl (lv_at hl 3 rfl) ?_
      refine lv_iload_n hx hb dX7_readCommand_189 rfl (lv_at hl 0 rfl) ?_
      refine cl_pi (rS (As := [.ref (b + 3), .int ((h_X7_carSign (oS M ((mS M) + 1))).1)]) (rest := [.ref b]) ⟨hx, hb, hml, hown, hts⟩ (c_X7_isParked l G (b + 3) (mR ((h_X7_carSign (oS M ((mS M) + 1))).2)) ((h_X7_carSign (oS M ((mS M) + 1))).1) (RI.M (by simp only [fig_R, car_R, cel_R, mR_oS]; exact hRI))) (va_cwS 2 hts gX7_readCommand_X7_isParked rfl rfl rfl (by decide +kernel) ⟨Nat.le_of_ble_eq_true rfl, Nat.le_of_ble_eq_true rfl⟩) (va_P.sub hP [3] rfl) hO rfl hl.1 (Nat.le_of_ble_eq_true rfl) dX7_readCommand_190 ⟨Nat.le_of_ble_eq_true rfl, Nat.le_of_ble_eq_true rfl⟩) ?_
      refine lv_if_eq (tgt := 219) hx hb dX7_readCommand_193 (by decide) (fun c_11 => ?_) (fun c_11 => ?_)
      · refine lv_iconst (v := 0) hx hb dX7_readCommand_219 (by decide) ?_
        refine cl_mi (rV (As := [.int 0]) (rest := []) ⟨hx, hb, hml, hown, hts⟩ (c_X7_done l G b ((h_X7_carSign (oS M ((mS M) + 1))).2) 0) (cwV 1 hts gX7_readCommand_X7_done rfl rfl rfl (by decide +kernel) ⟨Nat.le_of_ble_eq_true rfl, Nat.le_of_ble_eq_true rfl⟩) (md_recv hO hP) hP hO rfl hl.1 (Nat.le_of_ble_eq_true rfl) dX7_readCommand_220 ⟨Nat.le_of_ble_eq_true rfl, Nat.le_of_ble_eq_true rfl⟩) hS hA (fun H locs hP1 hz hk hS => ?_)
        have hP : Md G b ((h_X7_done ((h_X7_carSign (oS M ((mS M) + 1))).2) 0).2) H := hP1
        refine lv_if_eq (tgt := 230) hx hb dX7_readCommand_223 (by decide) (fun c_12 => ?_) (fun c_12 => ?_)
        · exact absurd c_12 (done_1 _ _)
        · refine lv_iconst (v := 1) hx hb dX7_readCommand_226 (by decide) ?_
          refine lv_goto (tgt := 231) hx hb dX7_readCommand_227 (by decide) ?_
          have hE : h_X7_readCommand M = (1, (h_X7_done ((h_X7_carSign (oS M ((mS M) + 1))).2) 0).2) := (by rw [h_X7_readCommand, if_neg c_1, if_neg c_8, if_pos c_9, if_neg c_10, if_pos c_11])
          have hE2 := snd_of hE
          exact W.zret (ty := .boolean) hx hb hr rfl (fun t ht hW => ⟨by rw [fst_of hE], by rw [ht, hE2]; exact hP, hS.F ht⟩) hS.2.2 dX7_readCommand_231
      · refine lv_aload_n hx hb dX7_readCommand_196 rfl (lv_at hl 3 rfl) ?_
        refine lv_iload_n hx hb dX7_readCommand_197 rfl (lv_at hl 0 rfl) ?_
        refine lv_iload_n hx hb dX7_readCommand_198 rfl (lv_at hl 1 rfl) ?_
        refine lv_bipush (v := 108) hx hb dX7_readCommand_199 (by decide) ?_
        refine lv_icmp_ne (tgt := 208) hx hb dX7_readCommand_201 (by decide) (fun c_13 => ?_) (fun c_13 => ?_)
        · exact absurd c_9 c_13
        · refine lv_iconst (v := 2) hx hb dX7_readCommand_204 (by decide) ?_
          refine lv_goto (tgt := 209) hx hb dX7_readCommand_205 (by decide) ?_
          refine cl_mi (rS (As := [.ref (b + 3), .int ((h_X7_carSign (oS M ((mS M) + 1))).1), .int 2]) (rest := [.ref b]) ⟨hx, hb, hml, hown, hts⟩ (c_X7_goes_raw l G (b + 3) (mR ((h_X7_carSign (oS M ((mS M) + 1))).2)) ((h_X7_carSign (oS M ((mS M) + 1))).1) 2 (by simp only [fig_R, car_R, cel_R, mR_oS]; exact hRI) (by first | with_reducible assumption | assumption)) (va_cwS 3 hts gX7_readCommand_X7_goes rfl rfl rfl (by decide +kernel) ⟨Nat.le_of_ble_eq_true rfl, Nat.le_of_ble_eq_true rfl⟩) (va_P.sub hP [3] rfl) hO rfl hl.1 (Nat.le_of_ble_eq_true rfl) dX7_readCommand_209 ⟨Nat.le_of_ble_eq_true rfl, Nat.le_of_ble_eq_true rfl⟩) hS (fun q h => hA q (by simp only [one, blk] at *; omega)) (fun H locs hP1 hz hk hS => ?_)
          have hP : Md G b (oR ((h_X7_carSign (oS M ((mS M) + 1))).2) ((h_X7_goes (mR ((h_X7_carSign (oS M ((mS M) + 1))).2)) (((h_X7_carSign (oS M ((mS M) + 1))).1).toNatClampNeg) 2).2)) H := md_pR (mo_row 3 hP rfl hP1 hk)
          refine lv_if_lt (tgt := 219) hx hb dX7_readCommand_212 (by decide) (fun c_14 => ?_) (fun c_14 => ?_)
          · refine lv_iconst (v := 0) hx hb dX7_readCommand_219 (by decide) ?_
            refine cl_mi (rV (As := [.int 0]) (rest := []) ⟨hx, hb, hml, hown, hts⟩ (c_X7_done l G b (oR ((h_X7_carSign (oS M ((mS M) + 1))).2) ((h_X7_goes (mR ((h_X7_carSign (oS M ((mS M) + 1))).2)) (((h_X7_carSign (oS M ((mS M) + 1))).1).toNatClampNeg) 2).2)) 0) (cwV 1 hts gX7_readCommand_X7_done rfl rfl rfl (by decide +kernel) ⟨Nat.le_of_ble_eq_true rfl, Nat.le_of_ble_eq_true rfl⟩) (md_recv hO hP) hP hO rfl hl.1 (Nat.le_of_ble_eq_true rfl) dX7_readCommand_220 ⟨Nat.le_of_ble_eq_true rfl, Nat.le_of_ble_eq_true rfl⟩) hS hA (fun H locs hP1 hz hk hS => ?_)
            have hP : Md G b ((h_X7_done (oR ((h_X7_carSign (oS M ((mS M) + 1))).2) ((h_X7_goes (mR ((h_X7_carSign (oS M ((mS M) + 1))).2)) (((h_X7_carSign (oS M ((mS M) + 1))).1).toNatClampNeg) 2).2)) 0).2) H := hP1
            refine lv_if_eq (tgt := 230) hx hb dX7_readCommand_223 (by decide) (fun c_15 => ?_) (fun c_15 => ?_)
            · exact absurd c_15 (done_1 _ _)
            · refine lv_iconst (v := 1) hx hb dX7_readCommand_226 (by decide) ?_
              refine lv_goto (tgt := 231) hx hb dX7_readCommand_227 (by decide) ?_
              have hE : h_X7_readCommand M = (1, (h_X7_done (oR ((h_X7_carSign (oS M ((mS M) + 1))).2) ((h_X7_goes (mR ((h_X7_carSign (oS M ((mS M) + 1))).2)) (((h_X7_carSign (oS M ((mS M) + 1))).1).toNatClampNeg) 2).2)) 0).2) := (by rw [h_X7_readCommand, if_neg c_1, if_neg c_8, if_pos c_9, if_neg c_10, if_neg c_11, if_pos c_14])
              have hE2 := snd_of hE
              exact W.zret (ty := .boolean) hx hb hr rfl (fun t ht hW => ⟨by rw [fst_of hE], by rw [ht, hE2]; exact hP, hS.F ht⟩) hS.2.2 dX7_readCommand_231
          · refine lv_iconst (v := 1) hx hb dX7_readCommand_215 (by decide) ?_
            refine lv_goto (tgt := 220) hx hb dX7_readCommand_216 (by decide) ?_
            refine cl_mi (rV (As := [.int 1]) (rest := []) ⟨hx, hb, hml, hown, hts⟩ (c_X7_done l G b (oR ((h_X7_carSign (oS M ((mS M) + 1))).2) ((h_X7_goes (mR ((h_X7_carSign (oS M ((mS M) + 1))).2)) (((h_X7_carSign (oS M ((mS M) + 1))).1).toNatClampNeg) 2).2)) 1) (cwV 1 hts gX7_readCommand_X7_done rfl rfl rfl (by decide +kernel) ⟨Nat.le_of_ble_eq_true rfl, Nat.le_of_ble_eq_true rfl⟩) (md_recv hO hP) hP hO rfl hl.1 (Nat.le_of_ble_eq_true rfl) dX7_readCommand_220 ⟨Nat.le_of_ble_eq_true rfl, Nat.le_of_ble_eq_true rfl⟩) hS hA (fun H locs hP1 hz hk hS => ?_)
            have hP : Md G b ((h_X7_done (oR ((h_X7_carSign (oS M ((mS M) + 1))).2) ((h_X7_goes (mR ((h_X7_carSign (oS M ((mS M) + 1))).2)) (((h_X7_carSign (oS M ((mS M) + 1))).1).toNatClampNeg) 2).2)) 1).2) H := hP1
            refine lv_if_eq (tgt := 230) hx hb dX7_readCommand_223 (by decide) (fun c_16 => ?_) (fun c_16 => ?_)
            · exact absurd c_16 (done_1 _ _)
            · refine lv_iconst (v := 1) hx hb dX7_readCommand_226 (by decide) ?_
              refine lv_goto (tgt := 231) hx hb dX7_readCommand_227 (by decide) ?_
              have hE : h_X7_readCommand M = (1, (h_X7_done (oR ((h_X7_carSign (oS M ((mS M) + 1))).2) ((h_X7_goes (mR ((h_X7_carSign (oS M ((mS M) + 1))).2)) (((h_X7_carSign (oS M ((mS M) + 1))).1).toNatClampNeg) 2).2)) 1).2) := (by rw [h_X7_readCommand, if_neg c_1, if_neg c_8, if_pos c_9, if_neg c_10, if_neg c_11, if_neg c_14])
              have hE2 := snd_of hE
              exact W.zret (ty := .boolean) hx hb hr rfl (fun t ht hW => ⟨by rw [fst_of hE], by rw [ht, hE2]; exact hP, hS.F ht⟩) hS.2.2 dX7_readCommand_231
  by_cases c_17 : ((mT M) (mS M).toNatClampNeg) = 109
  · refine lv_tableIn (off := 211) (tgt := 232) hx hb dX7_readCommand_21 (by rw [c_17]; decide) (by rw [c_17]; decide) (by rw [c_17]; decide +kernel) (by decide) ?_
    refine lv_aload_n hx hb dX7_readCommand_232 rfl (lv_at hl 1 rfl) ?_
    refine cl_mi (rV (As := []) (rest := []) ⟨hx, hb, hml, hown, hts⟩ (c_X7_carSign l G b (oS M ((mS M) + 1)) (by first | exact hTI | exact (hTI.up hsz).1 | (repeat (first | with_reducible exact hTI | with_reducible exact (hTI.up hsz).1 | with_reducible apply fig_TI | with_reducible apply car_TI | with_reducible apply cel_TI)))) (cwV 0 hts gX7_readCommand_X7_carSign rfl rfl rfl (by decide +kernel) ⟨Nat.le_of_ble_eq_true rfl, Nat.le_of_ble_eq_true rfl⟩) (md_recv hO hP) hP hO rfl hl.1 (Nat.le_of_ble_eq_true rfl) dX7_readCommand_233 ⟨Nat.le_of_ble_eq_true rfl, Nat.le_of_ble_eq_true rfl⟩) hS hA (fun H locs hP1 hz hk hS => ?_)
    have hP : Md G b ((h_X7_carSign (oS M ((mS M) + 1))).2) H := hP1
    refine lv_istore_n (lv' := [(3, .int ((h_X7_carSign (oS M ((mS M) + 1))).1)), (2, .int ((mT M) (mS M).toNatClampNeg)), (0, .ref b), (1, .ref (b + 3))]) hx hb dX7_readCommand_236 rfl hl (by decide) rfl (fun ls hl => ?_)
    refine lv_aload_n hx hb dX7_readCommand_237 rfl (lv_at hl 2 rfl) ?_
    refine lv_iload_n hx hb dX7_readCommand_238 rfl (lv_at hl 0 rfl) ?_
    refine cl_mi (rV (As := [.int ((h_X7_carSign (oS M ((mS M) + 1))).1)]) (rest := []) ⟨hx, hb, hml, hown, hts⟩ (c_X7_cellSign l G b ((h_X7_carSign (oS M ((mS M) + 1))).2) ((h_X7_carSign (oS M ((mS M) + 1))).1) (by first | exact hTI | exact (hTI.up hsz).1 | (repeat (first | with_reducible exact hTI | with_reducible exact (hTI.up hsz).1 | with_reducible apply fig_TI | with_reducible apply car_TI | with_reducible apply cel_TI)))) (cwV 1 hts gX7_readCommand_X7_cellSign rfl rfl rfl (by decide +kernel) ⟨Nat.le_of_ble_eq_true rfl, Nat.le_of_ble_eq_true rfl⟩) (md_recv hO hP) hP hO rfl hl.1 (Nat.le_of_ble_eq_true rfl) dX7_readCommand_239 ⟨Nat.le_of_ble_eq_true rfl, Nat.le_of_ble_eq_true rfl⟩) hS hA (fun H locs hP1 hz hk hS => ?_)
    have hP : Md G b ((h_X7_cellSign ((h_X7_carSign (oS M ((mS M) + 1))).2) ((h_X7_carSign (oS M ((mS M) + 1))).1)).2) H := hP1
    refine lv_istore (lv' := [(4, .int ((h_X7_cellSign ((h_X7_carSign (oS M ((mS M) + 1))).2) ((h_X7_carSign (oS M ((mS M) + 1))).1)).1)), (3, .int ((h_X7_carSign (oS M ((mS M) + 1))).1)), (2, .int ((mT M) (mS M).toNatClampNeg)), (0, .ref b), (1, .ref (b + 3))]) hx hb dX7_readCommand_242 hl (by decide) rfl (fun ls hl => ?_)
    refine lv_iload hx hb dX7_readCommand_244 (lv_at hl 0 rfl) ?_
    refine lv_iconst (v := -1) hx hb dX7_readCommand_246 (by decide) ?_
    refine lv_icmp_eq (tgt := 294) hx hb dX7_readCommand_247 (by decide) (fun c_18 => ?_) (fun c_18 => ?_)
    · refine lv_iconst (v := 0) hx hb dX7_readCommand_294 (by decide) ?_
      have hE : h_X7_readCommand M = (0, (h_X7_cellSign ((h_X7_carSign (oS M ((mS M) + 1))).2) ((h_X7_carSign (oS M ((mS M) + 1))).1)).2) := (by rw [h_X7_readCommand, if_neg c_1, if_neg c_8, if_neg c_9, if_pos c_17, if_pos c_18])
      have hE2 := snd_of hE
      exact W.zret (ty := .boolean) hx hb hr rfl (fun t ht hW => ⟨by rw [fst_of hE], by rw [ht, hE2]; exact hP, hS.F ht⟩) hS.2.2 dX7_readCommand_295
    · refine lv_aload_n hx hb dX7_readCommand_250 rfl (lv_at hl 3 rfl) ?_
      refine lv_aload_n hx hb dX7_readCommand_251 rfl (lv_at hl 4 rfl) ?_
      refine lv_iload_n hx hb dX7_readCommand_252 rfl (lv_at hl 1 rfl) ?_
      refine cl_pi (rS (As := [.ref (b + 3), .int ((h_X7_carSign (oS M ((mS M) + 1))).1)]) (rest := [.ref b]) ⟨hx, hb, hml, hown, hts⟩ (c_X7_isCar l G (b + 3) (mR ((h_X7_cellSign ((h_X7_carSign (oS M ((mS M) + 1))).2) ((h_X7_carSign (oS M ((mS M) + 1))).1)).2)) ((h_X7_carSign (oS M ((mS M) + 1))).1)) (va_cwS 2 hts gX7_readCommand_X7_isCar rfl rfl rfl (by decide +kernel) ⟨Nat.le_of_ble_eq_true rfl, Nat.le_of_ble_eq_true rfl⟩) (va_P.sub hP [3] rfl) hO rfl hl.1 (Nat.le_of_ble_eq_true rfl) dX7_readCommand_253 ⟨Nat.le_of_ble_eq_true rfl, Nat.le_of_ble_eq_true rfl⟩) ?_
      refine lv_if_eq (tgt := 283) hx hb dX7_readCommand_256 (by decide) (fun c_19 => ?_) (fun c_19 => ?_)
      · refine lv_iconst (v := 0) hx hb dX7_readCommand_283 (by decide) ?_
        refine cl_mi (rV (As := [.int 0]) (rest := []) ⟨hx, hb, hml, hown, hts⟩ (c_X7_done l G b ((h_X7_cellSign ((h_X7_carSign (oS M ((mS M) + 1))).2) ((h_X7_carSign (oS M ((mS M) + 1))).1)).2) 0) (cwV 1 hts gX7_readCommand_X7_done rfl rfl rfl (by decide +kernel) ⟨Nat.le_of_ble_eq_true rfl, Nat.le_of_ble_eq_true rfl⟩) (md_recv hO hP) hP hO rfl hl.1 (Nat.le_of_ble_eq_true rfl) dX7_readCommand_284 ⟨Nat.le_of_ble_eq_true rfl, Nat.le_of_ble_eq_true rfl⟩) hS hA (fun H locs hP1 hz hk hS => ?_)
        have hP : Md G b ((h_X7_done ((h_X7_cellSign ((h_X7_carSign (oS M ((mS M) + 1))).2) ((h_X7_carSign (oS M ((mS M) + 1))).1)).2) 0).2) H := hP1
        refine lv_if_eq (tgt := 294) hx hb dX7_readCommand_287 (by decide) (fun c_20 => ?_) (fun c_20 => ?_)
        · exact absurd c_20 (done_1 _ _)
        · refine lv_iconst (v := 1) hx hb dX7_readCommand_290 (by decide) ?_
          refine lv_goto (tgt := 295) hx hb dX7_readCommand_291 (by decide) ?_
          have hE : h_X7_readCommand M = (1, (h_X7_done ((h_X7_cellSign ((h_X7_carSign (oS M ((mS M) + 1))).2) ((h_X7_carSign (oS M ((mS M) + 1))).1)).2) 0).2) := (by rw [h_X7_readCommand, if_neg c_1, if_neg c_8, if_neg c_9, if_pos c_17, if_neg c_18, if_pos c_19])
          have hE2 := snd_of hE
          exact W.zret (ty := .boolean) hx hb hr rfl (fun t ht hW => ⟨by rw [fst_of hE], by rw [ht, hE2]; exact hP, hS.F ht⟩) hS.2.2 dX7_readCommand_295
      · refine lv_aload_n hx hb dX7_readCommand_259 rfl (lv_at hl 4 rfl) ?_
        refine lv_iload_n hx hb dX7_readCommand_260 rfl (lv_at hl 1 rfl) ?_
        refine lv_iload hx hb dX7_readCommand_261 (lv_at hl 0 rfl) ?_
        refine cl_pi (rS (As := [.ref (b + 3), .int ((h_X7_carSign (oS M ((mS M) + 1))).1), .int ((h_X7_cellSign ((h_X7_carSign (oS M ((mS M) + 1))).2) ((h_X7_carSign (oS M ((mS M) + 1))).1)).1)]) (rest := [.ref b]) ⟨hx, hb, hml, hown, hts⟩ (c_X7_canMove_raw l G (b + 3) (mR ((h_X7_cellSign ((h_X7_carSign (oS M ((mS M) + 1))).2) ((h_X7_carSign (oS M ((mS M) + 1))).1)).2)) ((h_X7_carSign (oS M ((mS M) + 1))).1) ((h_X7_cellSign ((h_X7_carSign (oS M ((mS M) + 1))).2) ((h_X7_carSign (oS M ((mS M) + 1))).1)).1) (by simp only [fig_R, car_R, cel_R, mR_oS]; exact hRI) (car_40x (by first | with_reducible assumption | assumption) (by simp only [fig_R, car_R, cel_R, mR_oS]; exact hRI)) (cel_n (by first | with_reducible assumption | assumption))) (va_cwS 3 hts gX7_readCommand_X7_canMove rfl rfl rfl (by decide +kernel) ⟨Nat.le_of_ble_eq_true rfl, Nat.le_of_ble_eq_true rfl⟩) (va_P.sub hP [3] rfl) hO rfl hl.1 (Nat.le_of_ble_eq_true rfl) dX7_readCommand_263 ⟨Nat.le_of_ble_eq_true rfl, Nat.le_of_ble_eq_true rfl⟩) ?_
        refine lv_if_eq (tgt := 283) hx hb dX7_readCommand_266 (by decide) (fun c_21 => ?_) (fun c_21 => ?_)
        · refine lv_iconst (v := 0) hx hb dX7_readCommand_283 (by decide) ?_
          refine cl_mi (rV (As := [.int 0]) (rest := []) ⟨hx, hb, hml, hown, hts⟩ (c_X7_done l G b ((h_X7_cellSign ((h_X7_carSign (oS M ((mS M) + 1))).2) ((h_X7_carSign (oS M ((mS M) + 1))).1)).2) 0) (cwV 1 hts gX7_readCommand_X7_done rfl rfl rfl (by decide +kernel) ⟨Nat.le_of_ble_eq_true rfl, Nat.le_of_ble_eq_true rfl⟩) (md_recv hO hP) hP hO rfl hl.1 (Nat.le_of_ble_eq_true rfl) dX7_readCommand_284 ⟨Nat.le_of_ble_eq_true rfl, Nat.le_of_ble_eq_true rfl⟩) hS hA (fun H locs hP1 hz hk hS => ?_)
          have hP : Md G b ((h_X7_done ((h_X7_cellSign ((h_X7_carSign (oS M ((mS M) + 1))).2) ((h_X7_carSign (oS M ((mS M) + 1))).1)).2) 0).2) H := hP1
          refine lv_if_eq (tgt := 294) hx hb dX7_readCommand_287 (by decide) (fun c_22 => ?_) (fun c_22 => ?_)
          · exact absurd c_22 (done_1 _ _)
          · refine lv_iconst (v := 1) hx hb dX7_readCommand_290 (by decide) ?_
            refine lv_goto (tgt := 295) hx hb dX7_readCommand_291 (by decide) ?_
            have hE : h_X7_readCommand M = (1, (h_X7_done ((h_X7_cellSign ((h_X7_carSign (oS M ((mS M) + 1))).2) ((h_X7_carSign (oS M ((mS M) + 1))).1)).2) 0).2) := (by rw [h_X7_readCommand, if_neg c_1, if_neg c_8, if_neg c_9, if_pos c_17, if_neg c_18, if_neg c_19, if_pos c_21])
            have hE2 := snd_of hE
            exact W.zret (ty := .boolean) hx hb hr rfl (fun t ht hW => ⟨by rw [fst_of hE], by rw [ht, hE2]; exact hP, hS.F ht⟩) hS.2.2 dX7_readCommand_295
        · refine lv_aload_n hx hb dX7_readCommand_269 rfl (lv_at hl 4 rfl) ?_
          refine lv_iload_n hx hb dX7_readCommand_270 rfl (lv_at hl 1 rfl) ?_
          refine lv_iload hx hb dX7_readCommand_271 (lv_at hl 0 rfl) ?_
          refine cl_mi (rS (As := [.ref (b + 3), .int ((h_X7_carSign (oS M ((mS M) + 1))).1), .int ((h_X7_cellSign ((h_X7_carSign (oS M ((mS M) + 1))).2) ((h_X7_carSign (oS M ((mS M) + 1))).1)).1)]) (rest := [.ref b]) ⟨hx, hb, hml, hown, hts⟩ (c_X7_moveOn_raw l G (b + 3) (mR ((h_X7_cellSign ((h_X7_carSign (oS M ((mS M) + 1))).2) ((h_X7_carSign (oS M ((mS M) + 1))).1)).2)) ((h_X7_carSign (oS M ((mS M) + 1))).1) ((h_X7_cellSign ((h_X7_carSign (oS M ((mS M) + 1))).2) ((h_X7_carSign (oS M ((mS M) + 1))).1)).1) (by simp only [fig_R, car_R, cel_R, mR_oS]; exact hRI) (car_40x (by first | with_reducible assumption | assumption) (by simp only [fig_R, car_R, cel_R, mR_oS]; exact hRI)) (cel_n (by first | with_reducible assumption | assumption)) (by first | with_reducible assumption | assumption)) (va_cwS 3 hts gX7_readCommand_X7_moveOn rfl rfl rfl (by decide +kernel) ⟨Nat.le_of_ble_eq_true rfl, Nat.le_of_ble_eq_true rfl⟩) (va_P.sub hP [3] rfl) hO rfl hl.1 (Nat.le_of_ble_eq_true rfl) dX7_readCommand_273 ⟨Nat.le_of_ble_eq_true rfl, Nat.le_of_ble_eq_true rfl⟩) hS (fun q h => hA q (by simp only [one, blk] at *; omega)) (fun H locs hP1 hz hk hS => ?_)
          have hP : Md G b (oR ((h_X7_cellSign ((h_X7_carSign (oS M ((mS M) + 1))).2) ((h_X7_carSign (oS M ((mS M) + 1))).1)).2) ((h_X7_moveOn (mR ((h_X7_cellSign ((h_X7_carSign (oS M ((mS M) + 1))).2) ((h_X7_carSign (oS M ((mS M) + 1))).1)).2)) (((h_X7_carSign (oS M ((mS M) + 1))).1).toNatClampNeg) (((h_X7_cellSign ((h_X7_carSign (oS M ((mS M) + 1))).2) ((h_X7_carSign (oS M ((mS M) + 1))).1)).1).toNatClampNeg)).2)) H := md_pR (mo_row 3 hP rfl hP1 hk)
          refine lv_if_lt (tgt := 283) hx hb dX7_readCommand_276 (by decide) (fun c_23 => ?_) (fun c_23 => ?_)
          · refine lv_iconst (v := 0) hx hb dX7_readCommand_283 (by decide) ?_
            refine cl_mi (rV (As := [.int 0]) (rest := []) ⟨hx, hb, hml, hown, hts⟩ (c_X7_done l G b (oR ((h_X7_cellSign ((h_X7_carSign (oS M ((mS M) + 1))).2) ((h_X7_carSign (oS M ((mS M) + 1))).1)).2) ((h_X7_moveOn (mR ((h_X7_cellSign ((h_X7_carSign (oS M ((mS M) + 1))).2) ((h_X7_carSign (oS M ((mS M) + 1))).1)).2)) (((h_X7_carSign (oS M ((mS M) + 1))).1).toNatClampNeg) (((h_X7_cellSign ((h_X7_carSign (oS M ((mS M) + 1))).2) ((h_X7_carSign (oS M ((mS M) + 1))).1)).1).toNatClampNeg)).2)) 0) (cwV 1 hts gX7_readCommand_X7_done rfl rfl rfl (by decide +kernel) ⟨Nat.le_of_ble_eq_true rfl, Nat.le_of_ble_eq_true rfl⟩) (md_recv hO hP) hP hO rfl hl.1 (Nat.le_of_ble_eq_true rfl) dX7_readCommand_284 ⟨Nat.le_of_ble_eq_true rfl, Nat.le_of_ble_eq_true rfl⟩) hS hA (fun H locs hP1 hz hk hS => ?_)
            have hP : Md G b ((h_X7_done (oR ((h_X7_cellSign ((h_X7_carSign (oS M ((mS M) + 1))).2) ((h_X7_carSign (oS M ((mS M) + 1))).1)).2) ((h_X7_moveOn (mR ((h_X7_cellSign ((h_X7_carSign (oS M ((mS M) + 1))).2) ((h_X7_carSign (oS M ((mS M) + 1))).1)).2)) (((h_X7_carSign (oS M ((mS M) + 1))).1).toNatClampNeg) (((h_X7_cellSign ((h_X7_carSign (oS M ((mS M) + 1))).2) ((h_X7_carSign (oS M ((mS M) + 1))).1)).1).toNatClampNeg)).2)) 0).2) H := hP1
            refine lv_if_eq (tgt := 294) hx hb dX7_readCommand_287 (by decide) (fun c_24 => ?_) (fun c_24 => ?_)
            · exact absurd c_24 (done_1 _ _)
            · refine lv_iconst (v := 1) hx hb dX7_readCommand_290 (by decide) ?_
              refine lv_goto (tgt := 295) hx hb dX7_readCommand_291 (by decide) ?_
              have hE : h_X7_readCommand M = (1, (h_X7_done (oR ((h_X7_cellSign ((h_X7_carSign (oS M ((mS M) + 1))).2) ((h_X7_carSign (oS M ((mS M) + 1))).1)).2) ((h_X7_moveOn (mR ((h_X7_cellSign ((h_X7_carSign (oS M ((mS M) + 1))).2) ((h_X7_carSign (oS M ((mS M) + 1))).1)).2)) (((h_X7_carSign (oS M ((mS M) + 1))).1).toNatClampNeg) (((h_X7_cellSign ((h_X7_carSign (oS M ((mS M) + 1))).2) ((h_X7_carSign (oS M ((mS M) + 1))).1)).1).toNatClampNeg)).2)) 0).2) := (by rw [h_X7_readCommand, if_neg c_1, if_neg c_8, if_neg c_9, if_pos c_17, if_neg c_18, if_neg c_19, if_neg c_21, if_pos c_23])
              have hE2 := snd_of hE
              exact W.zret (ty := .boolean) hx hb hr rfl (fun t ht hW => ⟨by rw [fst_of hE], by rw [ht, hE2]; exact hP, hS.F ht⟩) hS.2.2 dX7_readCommand_295
          · refine lv_iconst (v := 1) hx hb dX7_readCommand_279 (by decide) ?_
            refine lv_goto (tgt := 284) hx hb dX7_readCommand_280 (by decide) ?_
            refine cl_mi (rV (As := [.int 1]) (rest := []) ⟨hx, hb, hml, hown, hts⟩ (c_X7_done l G b (oR ((h_X7_cellSign ((h_X7_carSign (oS M ((mS M) + 1))).2) ((h_X7_carSign (oS M ((mS M) + 1))).1)).2) ((h_X7_moveOn (mR ((h_X7_cellSign ((h_X7_carSign (oS M ((mS M) + 1))).2) ((h_X7_carSign (oS M ((mS M) + 1))).1)).2)) (((h_X7_carSign (oS M ((mS M) + 1))).1).toNatClampNeg) (((h_X7_cellSign ((h_X7_carSign (oS M ((mS M) + 1))).2) ((h_X7_carSign (oS M ((mS M) + 1))).1)).1).toNatClampNeg)).2)) 1) (cwV 1 hts gX7_readCommand_X7_done rfl rfl rfl (by decide +kernel) ⟨Nat.le_of_ble_eq_true rfl, Nat.le_of_ble_eq_true rfl⟩) (md_recv hO hP) hP hO rfl hl.1 (Nat.le_of_ble_eq_true rfl) dX7_readCommand_284 ⟨Nat.le_of_ble_eq_true rfl, Nat.le_of_ble_eq_true rfl⟩) hS hA (fun H locs hP1 hz hk hS => ?_)
            have hP : Md G b ((h_X7_done (oR ((h_X7_cellSign ((h_X7_carSign (oS M ((mS M) + 1))).2) ((h_X7_carSign (oS M ((mS M) + 1))).1)).2) ((h_X7_moveOn (mR ((h_X7_cellSign ((h_X7_carSign (oS M ((mS M) + 1))).2) ((h_X7_carSign (oS M ((mS M) + 1))).1)).2)) (((h_X7_carSign (oS M ((mS M) + 1))).1).toNatClampNeg) (((h_X7_cellSign ((h_X7_carSign (oS M ((mS M) + 1))).2) ((h_X7_carSign (oS M ((mS M) + 1))).1)).1).toNatClampNeg)).2)) 1).2) H := hP1
            refine lv_if_eq (tgt := 294) hx hb dX7_readCommand_287 (by decide) (fun c_25 => ?_) (fun c_25 => ?_)
            · exact absurd c_25 (done_1 _ _)
            · refine lv_iconst (v := 1) hx hb dX7_readCommand_290 (by decide) ?_
              refine lv_goto (tgt := 295) hx hb dX7_readCommand_291 (by decide) ?_
              have hE : h_X7_readCommand M = (1, (h_X7_done (oR ((h_X7_cellSign ((h_X7_carSign (oS M ((mS M) + 1))).2) ((h_X7_carSign (oS M ((mS M) + 1))).1)).2) ((h_X7_moveOn (mR ((h_X7_cellSign ((h_X7_carSign (oS M ((mS M) + 1))).2) ((h_X7_carSign (oS M ((mS M) + 1))).1)).2)) (((h_X7_carSign (oS M ((mS M) + 1))).1).toNatClampNeg) (((h_X7_cellSign ((h_X7_carSign (oS M ((mS M) + 1))).2) ((h_X7_carSign (oS M ((mS M) + 1))).1)).1).toNatClampNeg)).2)) 1).2) := (by rw [h_X7_readCommand, if_neg c_1, if_neg c_8, if_neg c_9, if_pos c_17, if_neg c_18, if_neg c_19, if_neg c_21, if_neg c_23])
              have hE2 := snd_of hE
              exact W.zret (ty := .boolean) hx hb hr rfl (fun t ht hW => ⟨by rw [fst_of hE], by rw [ht, hE2]; exact hP, hS.F ht⟩) hS.2.2 dX7_readCommand_295
  by_cases c_26 : ((mT M) (mS M).toNatClampNeg) = 112
  · refine lv_tableIn (off := 316) (tgt := 337) hx hb dX7_readCommand_21 (by rw [c_26]; decide) (by rw [c_26]; decide) (by rw [c_26]; decide +kernel) (by decide) ?_
    refine lv_aload_n hx hb dX7_readCommand_337 rfl (lv_at hl 1 rfl) ?_
    refine lv_iconst (v := 0) hx hb dX7_readCommand_338 (by decide) ?_
    refine lv_iconst (v := 2) hx hb dX7_readCommand_339 (by decide) ?_
    refine lv_iconst (v := 1) hx hb dX7_readCommand_340 (by decide) ?_
    refine lv_bipush (v := 60) hx hb dX7_readCommand_341 (by decide) ?_
    refine cl_mi (rV (As := [.int 0, .int 2, .int 1, .int 60]) (rest := []) ⟨hx, hb, hml, hown, hts⟩ (c_X7_figures l G b (oS M ((mS M) + 1)) 0 2 1 60 (by first | exact hTI | exact (hTI.up hsz).1 | (repeat (first | with_reducible exact hTI | with_reducible exact (hTI.up hsz).1 | with_reducible apply fig_TI | with_reducible apply car_TI | with_reducible apply cel_TI)))) (cwV 4 hts gX7_readCommand_X7_figures rfl rfl rfl (by decide +kernel) ⟨Nat.le_of_ble_eq_true rfl, Nat.le_of_ble_eq_true rfl⟩) (md_recv hO hP) hP hO rfl hl.1 (Nat.le_of_ble_eq_true rfl) dX7_readCommand_343 ⟨Nat.le_of_ble_eq_true rfl, Nat.le_of_ble_eq_true rfl⟩) hS hA (fun H locs hP1 hz hk hS => ?_)
    have hP : Md G b ((h_X7_figures (oS M ((mS M) + 1)) 0 2 1 60).2) H := hP1
    refine lv_istore_n (lv' := [(3, .int ((h_X7_figures (oS M ((mS M) + 1)) 0 2 1 60).1)), (2, .int ((mT M) (mS M).toNatClampNeg)), (0, .ref b), (1, .ref (b + 3))]) hx hb dX7_readCommand_346 rfl hl (by decide) rfl (fun ls hl => ?_)
    refine lv_iload_n hx hb dX7_readCommand_347 rfl (lv_at hl 0 rfl) ?_
    refine lv_iconst (v := -1) hx hb dX7_readCommand_348 (by decide) ?_
    refine lv_icmp_eq (tgt := 376) hx hb dX7_readCommand_349 (by decide) (fun c_27 => ?_) (fun c_27 => ?_)
    · refine lv_iconst (v := 0) hx hb dX7_readCommand_376 (by decide) ?_
      have hE : h_X7_readCommand M = (0, (h_X7_figures (oS M ((mS M) + 1)) 0 2 1 60).2) := (by rw [h_X7_readCommand, if_neg c_1, if_neg c_8, if_neg c_9, if_neg c_17, if_pos c_26, if_pos c_27])
      have hE2 := snd_of hE
      exact W.zret (ty := .boolean) hx hb hr rfl (fun t ht hW => ⟨by rw [fst_of hE], by rw [ht, hE2]; exact hP, hS.F ht⟩) hS.2.2 dX7_readCommand_377
    · refine lv_aload_n hx hb dX7_readCommand_352 rfl (lv_at hl 2 rfl) ?_
      refine lv_aload_n hx hb dX7_readCommand_353 rfl (lv_at hl 3 rfl) ?_
      refine lv_iload_n hx hb dX7_readCommand_354 rfl (lv_at hl 0 rfl) ?_
      refine cl_mi (rS (As := [.ref (b + 3), .int ((h_X7_figures (oS M ((mS M) + 1)) 0 2 1 60).1)]) (rest := [.ref b]) ⟨hx, hb, hml, hown, hts⟩ (c_X7_minutesOn l G (b + 3) (mR ((h_X7_figures (oS M ((mS M) + 1)) 0 2 1 60).2)) ((h_X7_figures (oS M ((mS M) + 1)) 0 2 1 60).1) (by simp only [fig_R, car_R, cel_R, mR_oS]; exact hRI)) (va_cwS 2 hts gX7_readCommand_X7_minutesOn rfl rfl rfl (by decide +kernel) ⟨Nat.le_of_ble_eq_true rfl, Nat.le_of_ble_eq_true rfl⟩) (va_P.sub hP [3] rfl) hO rfl hl.1 (Nat.le_of_ble_eq_true rfl) dX7_readCommand_355 ⟨Nat.le_of_ble_eq_true rfl, Nat.le_of_ble_eq_true rfl⟩) hS (fun q h => hA q (by simp only [one, blk] at *; omega)) (fun H locs hP1 hz hk hS => ?_)
      have hP : Md G b (oR ((h_X7_figures (oS M ((mS M) + 1)) 0 2 1 60).2) ((h_X7_minutesOn (mR ((h_X7_figures (oS M ((mS M) + 1)) 0 2 1 60).2)) ((h_X7_figures (oS M ((mS M) + 1)) 0 2 1 60).1)).2)) H := md_pR (mo_row 3 hP rfl hP1 hk)
      refine lv_if_lt (tgt := 365) hx hb dX7_readCommand_358 (by decide) (fun c_28 => ?_) (fun c_28 => ?_)
      · refine lv_iconst (v := 0) hx hb dX7_readCommand_365 (by decide) ?_
        refine cl_mi (rV (As := [.int 0]) (rest := []) ⟨hx, hb, hml, hown, hts⟩ (c_X7_done l G b (oR ((h_X7_figures (oS M ((mS M) + 1)) 0 2 1 60).2) ((h_X7_minutesOn (mR ((h_X7_figures (oS M ((mS M) + 1)) 0 2 1 60).2)) ((h_X7_figures (oS M ((mS M) + 1)) 0 2 1 60).1)).2)) 0) (cwV 1 hts gX7_readCommand_X7_done rfl rfl rfl (by decide +kernel) ⟨Nat.le_of_ble_eq_true rfl, Nat.le_of_ble_eq_true rfl⟩) (md_recv hO hP) hP hO rfl hl.1 (Nat.le_of_ble_eq_true rfl) dX7_readCommand_366 ⟨Nat.le_of_ble_eq_true rfl, Nat.le_of_ble_eq_true rfl⟩) hS hA (fun H locs hP1 hz hk hS => ?_)
        have hP : Md G b ((h_X7_done (oR ((h_X7_figures (oS M ((mS M) + 1)) 0 2 1 60).2) ((h_X7_minutesOn (mR ((h_X7_figures (oS M ((mS M) + 1)) 0 2 1 60).2)) ((h_X7_figures (oS M ((mS M) + 1)) 0 2 1 60).1)).2)) 0).2) H := hP1
        refine lv_if_eq (tgt := 376) hx hb dX7_readCommand_369 (by decide) (fun c_29 => ?_) (fun c_29 => ?_)
        · exact absurd c_29 (done_1 _ _)
        · refine lv_iconst (v := 1) hx hb dX7_readCommand_372 (by decide) ?_
          refine lv_goto (tgt := 377) hx hb dX7_readCommand_373 (by decide) ?_
          have hE : h_X7_readCommand M = (1, (h_X7_done (oR ((h_X7_figures (oS M ((mS M) + 1)) 0 2 1 60).2) ((h_X7_minutesOn (mR ((h_X7_figures (oS M ((mS M) + 1)) 0 2 1 60).2)) ((h_X7_figures (oS M ((mS M) + 1)) 0 2 1 60).1)).2)) 0).2) := (by rw [h_X7_readCommand, if_neg c_1, if_neg c_8, if_neg c_9, if_neg c_17, if_pos c_26, if_neg c_27, if_pos c_28])
          have hE2 := snd_of hE
          exact W.zret (ty := .boolean) hx hb hr rfl (fun t ht hW => ⟨by rw [fst_of hE], by rw [ht, hE2]; exact hP, hS.F ht⟩) hS.2.2 dX7_readCommand_377
      · refine lv_iconst (v := 1) hx hb dX7_readCommand_361 (by decide) ?_
        refine lv_goto (tgt := 366) hx hb dX7_readCommand_362 (by decide) ?_
        refine cl_mi (rV (As := [.int 1]) (rest := []) ⟨hx, hb, hml, hown, hts⟩ (c_X7_done l G b (oR ((h_X7_figures (oS M ((mS M) + 1)) 0 2 1 60).2) ((h_X7_minutesOn (mR ((h_X7_figures (oS M ((mS M) + 1)) 0 2 1 60).2)) ((h_X7_figures (oS M ((mS M) + 1)) 0 2 1 60).1)).2)) 1) (cwV 1 hts gX7_readCommand_X7_done rfl rfl rfl (by decide +kernel) ⟨Nat.le_of_ble_eq_true rfl, Nat.le_of_ble_eq_true rfl⟩) (md_recv hO hP) hP hO rfl hl.1 (Nat.le_of_ble_eq_true rfl) dX7_readCommand_366 ⟨Nat.le_of_ble_eq_true rfl, Nat.le_of_ble_eq_true rfl⟩) hS hA (fun H locs hP1 hz hk hS => ?_)
        have hP : Md G b ((h_X7_done (oR ((h_X7_figures (oS M ((mS M) + 1)) 0 2 1 60).2) ((h_X7_minutesOn (mR ((h_X7_figures (oS M ((mS M) + 1)) 0 2 1 60).2)) ((h_X7_figures (oS M ((mS M) + 1)) 0 2 1 60).1)).2)) 1).2) H := hP1
        refine lv_if_eq (tgt := 376) hx hb dX7_readCommand_369 (by decide) (fun c_30 => ?_) (fun c_30 => ?_)
        · exact absurd c_30 (done_1 _ _)
        · refine lv_iconst (v := 1) hx hb dX7_readCommand_372 (by decide) ?_
          refine lv_goto (tgt := 377) hx hb dX7_readCommand_373 (by decide) ?_
          have hE : h_X7_readCommand M = (1, (h_X7_done (oR ((h_X7_figures (oS M ((mS M) + 1)) 0 2 1 60).2) ((h_X7_minutesOn (mR ((h_X7_figures (oS M ((mS M) + 1)) 0 2 1 60).2)) ((h_X7_figures (oS M ((mS M) + 1)) 0 2 1 60).1)).2)) 1).2) := (by rw [h_X7_readCommand, if_neg c_1, if_neg c_8, if_neg c_9, if_neg c_17, if_pos c_26, if_neg c_27, if_neg c_28])
          have hE2 := snd_of hE
          exact W.zret (ty := .boolean) hx hb hr rfl (fun t ht hW => ⟨by rw [fst_of hE], by rw [ht, hE2]; exact hP, hS.F ht⟩) hS.2.2 dX7_readCommand_377
  by_cases c_31 : ((mT M) (mS M).toNatClampNeg) = 114
  · refine lv_tableIn (off := 275) (tgt := 296) hx hb dX7_readCommand_21 (by rw [c_31]; decide) (by rw [c_31]; decide) (by rw [c_31]; decide +kernel) (by decide) ?_
    refine lv_aload_n hx hb dX7_readCommand_296 rfl (lv_at hl 1 rfl) ?_
    refine lv_iconst (v := 0) hx hb dX7_readCommand_297 (by decide) ?_
    refine lv_iconst (v := 1) hx hb dX7_readCommand_298 (by decide) ?_
    refine lv_iconst (v := 0) hx hb dX7_readCommand_299 (by decide) ?_
    refine lv_iconst (v := 2) hx hb dX7_readCommand_300 (by decide) ?_
    refine cl_mi (rV (As := [.int 0, .int 1, .int 0, .int 2]) (rest := []) ⟨hx, hb, hml, hown, hts⟩ (c_X7_figures l G b (oS M ((mS M) + 1)) 0 1 0 2 (by first | exact hTI | exact (hTI.up hsz).1 | (repeat (first | with_reducible exact hTI | with_reducible exact (hTI.up hsz).1 | with_reducible apply fig_TI | with_reducible apply car_TI | with_reducible apply cel_TI)))) (cwV 4 hts gX7_readCommand_X7_figures rfl rfl rfl (by decide +kernel) ⟨Nat.le_of_ble_eq_true rfl, Nat.le_of_ble_eq_true rfl⟩) (md_recv hO hP) hP hO rfl hl.1 (Nat.le_of_ble_eq_true rfl) dX7_readCommand_301 ⟨Nat.le_of_ble_eq_true rfl, Nat.le_of_ble_eq_true rfl⟩) hS hA (fun H locs hP1 hz hk hS => ?_)
    have hP : Md G b ((h_X7_figures (oS M ((mS M) + 1)) 0 1 0 2).2) H := hP1
    refine lv_istore_n (lv' := [(3, .int ((h_X7_figures (oS M ((mS M) + 1)) 0 1 0 2).1)), (2, .int ((mT M) (mS M).toNatClampNeg)), (0, .ref b), (1, .ref (b + 3))]) hx hb dX7_readCommand_304 rfl hl (by decide) rfl (fun ls hl => ?_)
    refine lv_iload_n hx hb dX7_readCommand_305 rfl (lv_at hl 0 rfl) ?_
    refine lv_iconst (v := -1) hx hb dX7_readCommand_306 (by decide) ?_
    refine lv_icmp_eq (tgt := 335) hx hb dX7_readCommand_307 (by decide) (fun c_32 => ?_) (fun c_32 => ?_)
    · refine lv_iconst (v := 0) hx hb dX7_readCommand_335 (by decide) ?_
      have hE : h_X7_readCommand M = (0, (h_X7_figures (oS M ((mS M) + 1)) 0 1 0 2).2) := (by rw [h_X7_readCommand, if_neg c_1, if_neg c_8, if_neg c_9, if_neg c_17, if_neg c_26, if_pos c_31, if_pos c_32])
      have hE2 := snd_of hE
      exact W.zret (ty := .boolean) hx hb hr rfl (fun t ht hW => ⟨by rw [fst_of hE], by rw [ht, hE2]; exact hP, hS.F ht⟩) hS.2.2 dX7_readCommand_336
    · refine lv_aload_n hx hb dX7_readCommand_310 rfl (lv_at hl 2 rfl) ?_
      refine lv_aload_n hx hb dX7_readCommand_311 rfl (lv_at hl 3 rfl) ?_
      refine lv_iconst (v := 0) hx hb dX7_readCommand_312 (by decide) ?_
      refine lv_iload_n hx hb dX7_readCommand_313 rfl (lv_at hl 0 rfl) ?_
      refine cl_mi (rS (As := [.ref (b + 3), .int 0, .int ((h_X7_figures (oS M ((mS M) + 1)) 0 1 0 2).1)]) (rest := [.ref b]) ⟨hx, hb, hml, hown, hts⟩ (c_X7_change l G (b + 3) (mR ((h_X7_figures (oS M ((mS M) + 1)) 0 1 0 2).2)) 0 ((h_X7_figures (oS M ((mS M) + 1)) 0 1 0 2).1) (by omega)) (va_cwS 3 hts gX7_readCommand_X7_change rfl rfl rfl (by decide +kernel) ⟨Nat.le_of_ble_eq_true rfl, Nat.le_of_ble_eq_true rfl⟩) (va_P.sub hP [3] rfl) hO rfl hl.1 (Nat.le_of_ble_eq_true rfl) dX7_readCommand_314 ⟨Nat.le_of_ble_eq_true rfl, Nat.le_of_ble_eq_true rfl⟩) hS (fun q h => hA q (by simp only [one, blk] at *; omega)) (fun H locs hP1 hz hk hS => ?_)
      have hP : Md G b (oR ((h_X7_figures (oS M ((mS M) + 1)) 0 1 0 2).2) ((h_X7_change (mR ((h_X7_figures (oS M ((mS M) + 1)) 0 1 0 2).2)) 0 ((h_X7_figures (oS M ((mS M) + 1)) 0 1 0 2).1)).2)) H := md_pR (mo_row 3 hP rfl hP1 hk)
      refine lv_if_lt (tgt := 324) hx hb dX7_readCommand_317 (by decide) (fun c_33 => ?_) (fun c_33 => ?_)
      · refine lv_iconst (v := 0) hx hb dX7_readCommand_324 (by decide) ?_
        refine cl_mi (rV (As := [.int 0]) (rest := []) ⟨hx, hb, hml, hown, hts⟩ (c_X7_done l G b (oR ((h_X7_figures (oS M ((mS M) + 1)) 0 1 0 2).2) ((h_X7_change (mR ((h_X7_figures (oS M ((mS M) + 1)) 0 1 0 2).2)) 0 ((h_X7_figures (oS M ((mS M) + 1)) 0 1 0 2).1)).2)) 0) (cwV 1 hts gX7_readCommand_X7_done rfl rfl rfl (by decide +kernel) ⟨Nat.le_of_ble_eq_true rfl, Nat.le_of_ble_eq_true rfl⟩) (md_recv hO hP) hP hO rfl hl.1 (Nat.le_of_ble_eq_true rfl) dX7_readCommand_325 ⟨Nat.le_of_ble_eq_true rfl, Nat.le_of_ble_eq_true rfl⟩) hS hA (fun H locs hP1 hz hk hS => ?_)
        have hP : Md G b ((h_X7_done (oR ((h_X7_figures (oS M ((mS M) + 1)) 0 1 0 2).2) ((h_X7_change (mR ((h_X7_figures (oS M ((mS M) + 1)) 0 1 0 2).2)) 0 ((h_X7_figures (oS M ((mS M) + 1)) 0 1 0 2).1)).2)) 0).2) H := hP1
        refine lv_if_eq (tgt := 335) hx hb dX7_readCommand_328 (by decide) (fun c_34 => ?_) (fun c_34 => ?_)
        · exact absurd c_34 (done_1 _ _)
        · refine lv_iconst (v := 1) hx hb dX7_readCommand_331 (by decide) ?_
          refine lv_goto (tgt := 336) hx hb dX7_readCommand_332 (by decide) ?_
          have hE : h_X7_readCommand M = (1, (h_X7_done (oR ((h_X7_figures (oS M ((mS M) + 1)) 0 1 0 2).2) ((h_X7_change (mR ((h_X7_figures (oS M ((mS M) + 1)) 0 1 0 2).2)) 0 ((h_X7_figures (oS M ((mS M) + 1)) 0 1 0 2).1)).2)) 0).2) := (by rw [h_X7_readCommand, if_neg c_1, if_neg c_8, if_neg c_9, if_neg c_17, if_neg c_26, if_pos c_31, if_neg c_32, if_pos c_33])
          have hE2 := snd_of hE
          exact W.zret (ty := .boolean) hx hb hr rfl (fun t ht hW => ⟨by rw [fst_of hE], by rw [ht, hE2]; exact hP, hS.F ht⟩) hS.2.2 dX7_readCommand_336
      · refine lv_iconst (v := 1) hx hb dX7_readCommand_320 (by decide) ?_
        refine lv_goto (tgt := 325) hx hb dX7_readCommand_321 (by decide) ?_
        refine cl_mi (rV (As := [.int 1]) (rest := []) ⟨hx, hb, hml, hown, hts⟩ (c_X7_done l G b (oR ((h_X7_figures (oS M ((mS M) + 1)) 0 1 0 2).2) ((h_X7_change (mR ((h_X7_figures (oS M ((mS M) + 1)) 0 1 0 2).2)) 0 ((h_X7_figures (oS M ((mS M) + 1)) 0 1 0 2).1)).2)) 1) (cwV 1 hts gX7_readCommand_X7_done rfl rfl rfl (by decide +kernel) ⟨Nat.le_of_ble_eq_true rfl, Nat.le_of_ble_eq_true rfl⟩) (md_recv hO hP) hP hO rfl hl.1 (Nat.le_of_ble_eq_true rfl) dX7_readCommand_325 ⟨Nat.le_of_ble_eq_true rfl, Nat.le_of_ble_eq_true rfl⟩) hS hA (fun H locs hP1 hz hk hS => ?_)
        have hP : Md G b ((h_X7_done (oR ((h_X7_figures (oS M ((mS M) + 1)) 0 1 0 2).2) ((h_X7_change (mR ((h_X7_figures (oS M ((mS M) + 1)) 0 1 0 2).2)) 0 ((h_X7_figures (oS M ((mS M) + 1)) 0 1 0 2).1)).2)) 1).2) H := hP1
        refine lv_if_eq (tgt := 335) hx hb dX7_readCommand_328 (by decide) (fun c_35 => ?_) (fun c_35 => ?_)
        · exact absurd c_35 (done_1 _ _)
        · refine lv_iconst (v := 1) hx hb dX7_readCommand_331 (by decide) ?_
          refine lv_goto (tgt := 336) hx hb dX7_readCommand_332 (by decide) ?_
          have hE : h_X7_readCommand M = (1, (h_X7_done (oR ((h_X7_figures (oS M ((mS M) + 1)) 0 1 0 2).2) ((h_X7_change (mR ((h_X7_figures (oS M ((mS M) + 1)) 0 1 0 2).2)) 0 ((h_X7_figures (oS M ((mS M) + 1)) 0 1 0 2).1)).2)) 1).2) := (by rw [h_X7_readCommand, if_neg c_1, if_neg c_8, if_neg c_9, if_neg c_17, if_neg c_26, if_pos c_31, if_neg c_32, if_neg c_33])
          have hE2 := snd_of hE
          exact W.zret (ty := .boolean) hx hb hr rfl (fun t ht hW => ⟨by rw [fst_of hE], by rw [ht, hE2]; exact hP, hS.F ht⟩) hS.2.2 dX7_readCommand_336
  by_cases c_36 : ((mT M) (mS M).toNatClampNeg) = 116
  · refine lv_tableIn (off := 156) (tgt := 177) hx hb dX7_readCommand_21 (by rw [c_36]; decide) (by rw [c_36]; decide) (by rw [c_36]; decide +kernel) (by decide) ?_
    refine lv_aload_n hx hb dX7_readCommand_177 rfl (lv_at hl 1 rfl) ?_
    refine cl_mi (rV (As := []) (rest := []) ⟨hx, hb, hml, hown, hts⟩ (c_X7_carSign l G b (oS M ((mS M) + 1)) (by first | exact hTI | exact (hTI.up hsz).1 | (repeat (first | with_reducible exact hTI | with_reducible exact (hTI.up hsz).1 | with_reducible apply fig_TI | with_reducible apply car_TI | with_reducible apply cel_TI)))) (cwV 0 hts gX7_readCommand_X7_carSign rfl rfl rfl (by decide +kernel) ⟨Nat.le_of_ble_eq_true rfl, Nat.le_of_ble_eq_true rfl⟩) (md_recv hO hP) hP hO rfl hl.1 (Nat.le_of_ble_eq_true rfl) dX7_readCommand_178 ⟨Nat.le_of_ble_eq_true rfl, Nat.le_of_ble_eq_true rfl⟩) hS hA (fun H locs hP1 hz hk hS => ?_)
    have hP : Md G b ((h_X7_carSign (oS M ((mS M) + 1))).2) H := hP1
    refine lv_istore_n (lv' := [(3, .int ((h_X7_carSign (oS M ((mS M) + 1))).1)), (2, .int ((mT M) (mS M).toNatClampNeg)), (0, .ref b), (1, .ref (b + 3))]) hx hb dX7_readCommand_181 rfl hl (by decide) rfl (fun ls hl => ?_)
    refine lv_iload_n hx hb dX7_readCommand_182 rfl (lv_at hl 0 rfl) ?_
    refine lv_iconst (v := -1) hx hb dX7_readCommand_183 (by decide) ?_
    refine lv_icmp_eq (tgt := 230) hx hb dX7_readCommand_184 (by decide) (fun c_37 => ?_) (fun c_37 => ?_)
    · refine lv_iconst (v := 0) hx hb dX7_readCommand_230 (by decide) ?_
      have hE : h_X7_readCommand M = (0, (h_X7_carSign (oS M ((mS M) + 1))).2) := (by rw [h_X7_readCommand, if_neg c_1, if_neg c_8, if_neg c_9, if_neg c_17, if_neg c_26, if_neg c_31, if_pos c_36, if_pos c_37])
      have hE2 := snd_of hE
      exact W.zret (ty := .boolean) hx hb hr rfl (fun t ht hW => ⟨by rw [fst_of hE], by rw [ht, hE2]; exact hP, hS.F ht⟩) hS.2.2 dX7_readCommand_231
    · refine lv_aload_n hx hb dX7_readCommand_187 rfl (lv_at hl 2 rfl) ?_
      refine lv_aload_n hx hb dX7_readCommand_188 rfl (lv_at hl 3 rfl) ?_
      refine lv_iload_n hx hb dX7_readCommand_189 rfl (lv_at hl 0 rfl) ?_
      refine cl_pi (rS (As := [.ref (b + 3), .int ((h_X7_carSign (oS M ((mS M) + 1))).1)]) (rest := [.ref b]) ⟨hx, hb, hml, hown, hts⟩ (c_X7_isParked l G (b + 3) (mR ((h_X7_carSign (oS M ((mS M) + 1))).2)) ((h_X7_carSign (oS M ((mS M) + 1))).1) (RI.M (by simp only [fig_R, car_R, cel_R, mR_oS]; exact hRI))) (va_cwS 2 hts gX7_readCommand_X7_isParked rfl rfl rfl (by decide +kernel) ⟨Nat.le_of_ble_eq_true rfl, Nat.le_of_ble_eq_true rfl⟩) (va_P.sub hP [3] rfl) hO rfl hl.1 (Nat.le_of_ble_eq_true rfl) dX7_readCommand_190 ⟨Nat.le_of_ble_eq_true rfl, Nat.le_of_ble_eq_true rfl⟩) ?_
      refine lv_if_eq (tgt := 219) hx hb dX7_readCommand_193 (by decide) (fun c_38 => ?_) (fun c_38 => ?_)
      · refine lv_iconst (v := 0) hx hb dX7_readCommand_219 (by decide) ?_
        refine cl_mi (rV (As := [.int 0]) (rest := []) ⟨hx, hb, hml, hown, hts⟩ (c_X7_done l G b ((h_X7_carSign (oS M ((mS M) + 1))).2) 0) (cwV 1 hts gX7_readCommand_X7_done rfl rfl rfl (by decide +kernel) ⟨Nat.le_of_ble_eq_true rfl, Nat.le_of_ble_eq_true rfl⟩) (md_recv hO hP) hP hO rfl hl.1 (Nat.le_of_ble_eq_true rfl) dX7_readCommand_220 ⟨Nat.le_of_ble_eq_true rfl, Nat.le_of_ble_eq_true rfl⟩) hS hA (fun H locs hP1 hz hk hS => ?_)
        have hP : Md G b ((h_X7_done ((h_X7_carSign (oS M ((mS M) + 1))).2) 0).2) H := hP1
        refine lv_if_eq (tgt := 230) hx hb dX7_readCommand_223 (by decide) (fun c_39 => ?_) (fun c_39 => ?_)
        · exact absurd c_39 (done_1 _ _)
        · refine lv_iconst (v := 1) hx hb dX7_readCommand_226 (by decide) ?_
          refine lv_goto (tgt := 231) hx hb dX7_readCommand_227 (by decide) ?_
          have hE : h_X7_readCommand M = (1, (h_X7_done ((h_X7_carSign (oS M ((mS M) + 1))).2) 0).2) := (by rw [h_X7_readCommand, if_neg c_1, if_neg c_8, if_neg c_9, if_neg c_17, if_neg c_26, if_neg c_31, if_pos c_36, if_neg c_37, if_pos c_38])
          have hE2 := snd_of hE
          exact W.zret (ty := .boolean) hx hb hr rfl (fun t ht hW => ⟨by rw [fst_of hE], by rw [ht, hE2]; exact hP, hS.F ht⟩) hS.2.2 dX7_readCommand_231
      · refine lv_aload_n hx hb dX7_readCommand_196 rfl (lv_at hl 3 rfl) ?_
        refine lv_iload_n hx hb dX7_readCommand_197 rfl (lv_at hl 0 rfl) ?_
        refine lv_iload_n hx hb dX7_readCommand_198 rfl (lv_at hl 1 rfl) ?_
        refine lv_bipush (v := 108) hx hb dX7_readCommand_199 (by decide) ?_
        refine lv_icmp_ne (tgt := 208) hx hb dX7_readCommand_201 (by decide) (fun c_40 => ?_) (fun c_40 => ?_)
        · refine lv_iconst (v := 4) hx hb dX7_readCommand_208 (by decide) ?_
          refine cl_mi (rS (As := [.ref (b + 3), .int ((h_X7_carSign (oS M ((mS M) + 1))).1), .int 4]) (rest := [.ref b]) ⟨hx, hb, hml, hown, hts⟩ (c_X7_goes_raw l G (b + 3) (mR ((h_X7_carSign (oS M ((mS M) + 1))).2)) ((h_X7_carSign (oS M ((mS M) + 1))).1) 4 (by simp only [fig_R, car_R, cel_R, mR_oS]; exact hRI) (by first | with_reducible assumption | assumption)) (va_cwS 3 hts gX7_readCommand_X7_goes rfl rfl rfl (by decide +kernel) ⟨Nat.le_of_ble_eq_true rfl, Nat.le_of_ble_eq_true rfl⟩) (va_P.sub hP [3] rfl) hO rfl hl.1 (Nat.le_of_ble_eq_true rfl) dX7_readCommand_209 ⟨Nat.le_of_ble_eq_true rfl, Nat.le_of_ble_eq_true rfl⟩) hS (fun q h => hA q (by simp only [one, blk] at *; omega)) (fun H locs hP1 hz hk hS => ?_)
          have hP : Md G b (oR ((h_X7_carSign (oS M ((mS M) + 1))).2) ((h_X7_goes (mR ((h_X7_carSign (oS M ((mS M) + 1))).2)) (((h_X7_carSign (oS M ((mS M) + 1))).1).toNatClampNeg) 4).2)) H := md_pR (mo_row 3 hP rfl hP1 hk)
          refine lv_if_lt (tgt := 219) hx hb dX7_readCommand_212 (by decide) (fun c_41 => ?_) (fun c_41 => ?_)
          · refine lv_iconst (v := 0) hx hb dX7_readCommand_219 (by decide) ?_
            refine cl_mi (rV (As := [.int 0]) (rest := []) ⟨hx, hb, hml, hown, hts⟩ (c_X7_done l G b (oR ((h_X7_carSign (oS M ((mS M) + 1))).2) ((h_X7_goes (mR ((h_X7_carSign (oS M ((mS M) + 1))).2)) (((h_X7_carSign (oS M ((mS M) + 1))).1).toNatClampNeg) 4).2)) 0) (cwV 1 hts gX7_readCommand_X7_done rfl rfl rfl (by decide +kernel) ⟨Nat.le_of_ble_eq_true rfl, Nat.le_of_ble_eq_true rfl⟩) (md_recv hO hP) hP hO rfl hl.1 (Nat.le_of_ble_eq_true rfl) dX7_readCommand_220 ⟨Nat.le_of_ble_eq_true rfl, Nat.le_of_ble_eq_true rfl⟩) hS hA (fun H locs hP1 hz hk hS => ?_)
            have hP : Md G b ((h_X7_done (oR ((h_X7_carSign (oS M ((mS M) + 1))).2) ((h_X7_goes (mR ((h_X7_carSign (oS M ((mS M) + 1))).2)) (((h_X7_carSign (oS M ((mS M) + 1))).1).toNatClampNeg) 4).2)) 0).2) H := hP1
            refine lv_if_eq (tgt := 230) hx hb dX7_readCommand_223 (by decide) (fun c_42 => ?_) (fun c_42 => ?_)
            · exact absurd c_42 (done_1 _ _)
            · refine lv_iconst (v := 1) hx hb dX7_readCommand_226 (by decide) ?_
              refine lv_goto (tgt := 231) hx hb dX7_readCommand_227 (by decide) ?_
              have hE : h_X7_readCommand M = (1, (h_X7_done (oR ((h_X7_carSign (oS M ((mS M) + 1))).2) ((h_X7_goes (mR ((h_X7_carSign (oS M ((mS M) + 1))).2)) (((h_X7_carSign (oS M ((mS M) + 1))).1).toNatClampNeg) 4).2)) 0).2) := (by rw [h_X7_readCommand, if_neg c_1, if_neg c_8, if_neg c_9, if_neg c_17, if_neg c_26, if_neg c_31, if_pos c_36, if_neg c_37, if_neg c_38, if_pos c_41])
              have hE2 := snd_of hE
              exact W.zret (ty := .boolean) hx hb hr rfl (fun t ht hW => ⟨by rw [fst_of hE], by rw [ht, hE2]; exact hP, hS.F ht⟩) hS.2.2 dX7_readCommand_231
          · refine lv_iconst (v := 1) hx hb dX7_readCommand_215 (by decide) ?_
            refine lv_goto (tgt := 220) hx hb dX7_readCommand_216 (by decide) ?_
            refine cl_mi (rV (As := [.int 1]) (rest := []) ⟨hx, hb, hml, hown, hts⟩ (c_X7_done l G b (oR ((h_X7_carSign (oS M ((mS M) + 1))).2) ((h_X7_goes (mR ((h_X7_carSign (oS M ((mS M) + 1))).2)) (((h_X7_carSign (oS M ((mS M) + 1))).1).toNatClampNeg) 4).2)) 1) (cwV 1 hts gX7_readCommand_X7_done rfl rfl rfl (by decide +kernel) ⟨Nat.le_of_ble_eq_true rfl, Nat.le_of_ble_eq_true rfl⟩) (md_recv hO hP) hP hO rfl hl.1 (Nat.le_of_ble_eq_true rfl) dX7_readCommand_220 ⟨Nat.le_of_ble_eq_true rfl, Nat.le_of_ble_eq_true rfl⟩) hS hA (fun H locs hP1 hz hk hS => ?_)
            have hP : Md G b ((h_X7_done (oR ((h_X7_carSign (oS M ((mS M) + 1))).2) ((h_X7_goes (mR ((h_X7_carSign (oS M ((mS M) + 1))).2)) (((h_X7_carSign (oS M ((mS M) + 1))).1).toNatClampNeg) 4).2)) 1).2) H := hP1
            refine lv_if_eq (tgt := 230) hx hb dX7_readCommand_223 (by decide) (fun c_43 => ?_) (fun c_43 => ?_)
            · exact absurd c_43 (done_1 _ _)
            · refine lv_iconst (v := 1) hx hb dX7_readCommand_226 (by decide) ?_
              refine lv_goto (tgt := 231) hx hb dX7_readCommand_227 (by decide) ?_
              have hE : h_X7_readCommand M = (1, (h_X7_done (oR ((h_X7_carSign (oS M ((mS M) + 1))).2) ((h_X7_goes (mR ((h_X7_carSign (oS M ((mS M) + 1))).2)) (((h_X7_carSign (oS M ((mS M) + 1))).1).toNatClampNeg) 4).2)) 1).2) := (by rw [h_X7_readCommand, if_neg c_1, if_neg c_8, if_neg c_9, if_neg c_17, if_neg c_26, if_neg c_31, if_pos c_36, if_neg c_37, if_neg c_38, if_neg c_41])
              have hE2 := snd_of hE
              exact W.zret (ty := .boolean) hx hb hr rfl (fun t ht hW => ⟨by rw [fst_of hE], by rw [ht, hE2]; exact hP, hS.F ht⟩) hS.2.2 dX7_readCommand_231
        · exact absurd c_40 c_9
  refine lv_tableD (tgt := 378) hx hb dX7_readCommand_21 (by intro i h1 h2 h3; rcases (show i = 99 ∨ i = 100 ∨ i = 101 ∨ i = 102 ∨ i = 103 ∨ i = 104 ∨ i = 105 ∨ i = 106 ∨ i = 107 ∨ i = 108 ∨ i = 109 ∨ i = 110 ∨ i = 111 ∨ i = 112 ∨ i = 113 ∨ i = 114 ∨ i = 115 ∨ i = 116 by omega) with rfl | rfl | rfl | rfl | rfl | rfl | rfl | rfl | rfl | rfl | rfl | rfl | rfl | rfl | rfl | rfl | rfl | rfl; all_goals first | decide +kernel | (clear h1 h2; first | exact absurd (Int32.toInt_inj.mp (h3.symm.trans (show (99 : Int) = (99 : Int32).toInt by decide))) c_1 | exact absurd (Int32.toInt_inj.mp (h3.symm.trans (show (104 : Int) = (104 : Int32).toInt by decide))) c_8 | exact absurd (Int32.toInt_inj.mp (h3.symm.trans (show (108 : Int) = (108 : Int32).toInt by decide))) c_9 | exact absurd (Int32.toInt_inj.mp (h3.symm.trans (show (109 : Int) = (109 : Int32).toInt by decide))) c_17 | exact absurd (Int32.toInt_inj.mp (h3.symm.trans (show (112 : Int) = (112 : Int32).toInt by decide))) c_26 | exact absurd (Int32.toInt_inj.mp (h3.symm.trans (show (114 : Int) = (114 : Int32).toInt by decide))) c_31 | exact absurd (Int32.toInt_inj.mp (h3.symm.trans (show (116 : Int) = (116 : Int32).toInt by decide))) c_36)) (by decide) ?_
  refine lv_aload_n hx hb dX7_readCommand_378 rfl (lv_at hl 1 rfl) ?_
  refine lv_dup hx hb dX7_readCommand_379 rfl ?_
  refine va_get (D := G.1) (ci := 5) (v := .int (mS (oS M ((mS M) + 1)))) (C := RX7) (T := TX7) (N := 12) hx hb hts hin7 hown hO.1 hP 0 rfl rfl 10 (by decide) hf_140 (fun _ h9 => h9) rfl dX7_readCommand_380 ?_
  refine lv_iconst (v := 1) hx hb dX7_readCommand_383 (by decide) ?_
  refine lv_isub hx hb dX7_readCommand_384 ?_
  refine va_put (D := G.1) (ci := 5) (v := .int ((mS (oS M ((mS M) + 1))) - 1)) (ty := .int) (C := RX7) (T := TX7) (N := 12) hx hb hts hin7 tyX7 tyX7_ok nmX7 hown hO.1 hP (md_D b (oS M ((mS M) + 1)) hA) hS 0 rfl rfl 10 (by decide) hf_140 (fun _ h9 => h9) rfl (by decide +kernel) rfl rfl (Nat.le_of_ble_eq_true rfl) dX7_readCommand_385 (fun H locs hP hD hS => ?_)
  have hP : Md G b (oS (oS M ((mS M) + 1)) ((mS (oS M ((mS M) + 1))) - 1)) H := md_pS hP
  refine lv_iconst (v := 0) hx hb dX7_readCommand_388 (by decide) ?_
  have hE : h_X7_readCommand M = (0, (oS (oS M ((mS M) + 1)) ((mS (oS M ((mS M) + 1))) - 1))) := (by rw [h_X7_readCommand, if_neg c_1, if_neg c_8, if_neg c_9, if_neg c_17, if_neg c_26, if_neg c_31, if_neg c_36])
  have hE2 := snd_of hE
  exact W.zret (ty := .boolean) hx hb hr rfl (fun t ht hW => ⟨by rw [fst_of hE], by rw [ht, hE2]; exact hP, hS.F ht⟩) hS.2.2 dX7_readCommand_389
