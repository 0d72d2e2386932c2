def h_X7_readHydrant (M : Mo) : Int32 × Mo :=
  if ((h_X7_cellSign M 0).1) = (-1) then (0, (h_X7_cellSign M 0).2) else
  if (mS ((h_X7_cellSign M 0).2)) = (mZ ((h_X7_cellSign M 0).2)) then (0, (h_X7_cellSign M 0).2) else
  if ((mT ((h_X7_cellSign M 0).2)) (mS ((h_X7_cellSign M 0).2)).toNatClampNeg) = 43 then (if (f_X7_canHydrant (mR (oS ((h_X7_cellSign M 0).2) ((mS ((h_X7_cellSign M 0).2)) + 1))) ((h_X7_cellSign M 0).1) 1) = 0 then ((h_X7_done (oS ((h_X7_cellSign M 0).2) ((mS ((h_X7_cellSign M 0).2)) + 1)) 0).1, (h_X7_done (oS ((h_X7_cellSign M 0).2) ((mS ((h_X7_cellSign M 0).2)) + 1)) 0).2) else
    if ((h_X7_hydrantOn (mR (oS ((h_X7_cellSign M 0).2) ((mS ((h_X7_cellSign M 0).2)) + 1))) (((h_X7_cellSign M 0).1).toNatClampNeg) 1).1) < 0 then ((h_X7_done (oR (oS ((h_X7_cellSign M 0).2) ((mS ((h_X7_cellSign M 0).2)) + 1)) ((h_X7_hydrantOn (mR (oS ((h_X7_cellSign M 0).2) ((mS ((h_X7_cellSign M 0).2)) + 1))) (((h_X7_cellSign M 0).1).toNatClampNeg) 1).2)) 0).1, (h_X7_done (oR (oS ((h_X7_cellSign M 0).2) ((mS ((h_X7_cellSign M 0).2)) + 1)) ((h_X7_hydrantOn (mR (oS ((h_X7_cellSign M 0).2) ((mS ((h_X7_cellSign M 0).2)) + 1))) (((h_X7_cellSign M 0).1).toNatClampNeg) 1).2)) 0).2) else
    ((h_X7_done (oR (oS ((h_X7_cellSign M 0).2) ((mS ((h_X7_cellSign M 0).2)) + 1)) ((h_X7_hydrantOn (mR (oS ((h_X7_cellSign M 0).2) ((mS ((h_X7_cellSign M 0).2)) + 1))) (((h_X7_cellSign M 0).1).toNatClampNeg) 1).2)) 1).1, (h_X7_done (oR (oS ((h_X7_cellSign M 0).2) ((mS ((h_X7_cellSign M 0).2)) + 1)) ((h_X7_hydrantOn (mR (oS ((h_X7_cellSign M 0).2) ((mS ((h_X7_cellSign M 0).2)) + 1))) (((h_X7_cellSign M 0).1).toNatClampNeg) 1).2)) 1).2)) else
  if ((mT ((h_X7_cellSign M 0).2)) (mS ((h_X7_cellSign M 0).2)).toNatClampNeg) = 45 then (if (f_X7_canHydrant (mR (oS ((h_X7_cellSign M 0).2) ((mS ((h_X7_cellSign M 0).2)) + 1))) ((h_X7_cellSign M 0).1) 0) = 0 then ((h_X7_done (oS ((h_X7_cellSign M 0).2) ((mS ((h_X7_cellSign M 0).2)) + 1)) 0).1, (h_X7_done (oS ((h_X7_cellSign M 0).2) ((mS ((h_X7_cellSign M 0).2)) + 1)) 0).2) else
    if ((h_X7_hydrantOn (mR (oS ((h_X7_cellSign M 0).2) ((mS ((h_X7_cellSign M 0).2)) + 1))) (((h_X7_cellSign M 0).1).toNatClampNeg) 0).1) < 0 then ((h_X7_done (oR (oS ((h_X7_cellSign M 0).2) ((mS ((h_X7_cellSign M 0).2)) + 1)) ((h_X7_hydrantOn (mR (oS ((h_X7_cellSign M 0).2) ((mS ((h_X7_cellSign M 0).2)) + 1))) (((h_X7_cellSign M 0).1).toNatClampNeg) 0).2)) 0).1, (h_X7_done (oR (oS ((h_X7_cellSign M 0).2) ((mS ((h_X7_cellSign M 0).2)) + 1)) ((h_X7_hydrantOn (mR (oS ((h_X7_cellSign M 0).2) ((mS ((h_X7_cellSign M 0).2)) + 1))) (((h_X7_cellSign M 0).1).toNatClampNeg) 0).2)) 0).2) else
    ((h_X7_done (oR (oS ((h_X7_cellSign M 0).2) ((mS ((h_X7_cellSign M 0).2)) + 1)) ((h_X7_hydrantOn (mR (oS ((h_X7_cellSign M 0).2) ((mS ((h_X7_cellSign M 0).2)) + 1))) (((h_X7_cellSign M 0).1).toNatClampNeg) 0).2)) 1).1, (h_X7_done (oR (oS ((h_X7_cellSign M 0).2) ((mS ((h_X7_cellSign M 0).2)) + 1)) ((h_X7_hydrantOn (mR (oS ((h_X7_cellSign M 0).2) ((mS ((h_X7_cellSign M 0).2)) + 1))) (((h_X7_cellSign M 0).1).toNatClampNeg) 0).2)) 1).2)) else
  (0, (h_X7_cellSign M 0).2)
set_option maxHeartbeats 4000000 in
set_option maxRecDepth 100000 in
theorem c_X7_readHydrant (l : Launch) (G : GG) (b : Nat) (M : Mo) (hTI : TI M) (hRI : RI (mR M)) : Met l yX7_readHydrant wsX7_readHydrant ({ frames := 3, cells := 0, slots := 0, locals := 74 }) (PcH G [.ref b, .ref (b + 3)] (Md G b M)) (QM (some (.int ((h_X7_readHydrant M).1))) (Md G b ((h_X7_readHydrant M).2)) (blk b (b + 8))) 0 0 (blk b (b + 8)) := by
  refine metH (cc := cX7_readHydrant) (maxL := 4) (ret := (some .boolean)) (by decide) rfl ?_
  intro p e s m below meth cd hx hb hr hml hown hts hlocks hP hO
  have hin7 : ∀ w ∈ u_ws RX7 TX7 12, w ∈ wsX7_readHydrant := by decide +kernel
  have hf_7 := hts (.fieldLink RX7 7 "CurbCarsModel" "text" "[I") (by decide +kernel)
  have hf_134 := hts (.fieldLink RX7 134 "CurbCarsModel" "size" "I") (by decide +kernel)
  have hf_140 := hts (.fieldLink RX7 140 "CurbCarsModel" "spot" "I") (by decide +kernel)
  have hA : ∀ q, (blk b (b + 8)) q → (blk b (b + 8)) q := fun _ h => h
  have hS : va_S (blk b (b + 8)) s.heap s.heap [] := va_S.rf
  have hl := lv_entry ([.ref b, .ref (b + 3)]) (n := 4) (Nat.le_of_ble_eq_true rfl)
  rw [lg_entry_eq]
  generalize (lg_sl ([.ref b, .ref (b + 3)]) ++ List.replicate (4 - (lg_sl ([.ref b, .ref (b + 3)])).length) Slot.unset).toArray = ls at hl ⊢
  have hl : lv_has ls 4 [(0, .ref b), (1, .ref (b + 3))] := hl
  refine lv_aload_n hx hb dX7_readHydrant_0 rfl (lv_at hl 0 rfl) ?_
  refine lv_iconst (v := 0) hx hb dX7_readHydrant_1 (by decide) ?_
  refine cl_mi (rV (As := [.int 0]) (rest := []) ⟨hx, hb, hml, hown, hts⟩ (c_X7_cellSign l G b M 0 (by first | exact hTI | exact (hTI.up hsz).1 | (repeat (first | with_reducible exact (hTI.up hsz).1 | with_reducible apply fig_TI | with_reducible apply car_TI | with_reducible apply cel_TI)))) (cwV 1 hts gX7_readHydrant_X7_cellSign rfl rfl rfl (by decide +kernel) ⟨Nat.le_of_ble_eq_true rfl, Nat.le_of_ble_eq_true rfl⟩) (md_recv hO hP) hP hO rfl hl.1 (Nat.le_of_ble_eq_true rfl) dX7_readHydrant_2 ⟨Nat.le_of_ble_eq_true rfl, Nat.le_of_ble_eq_true rfl⟩) hS hA (fun H locs hP1 hz hk hS => ?_)
  have hP : Md G b ((h_X7_cellSign M 0).2) H := hP1
  refine lv_istore_n (lv' := [(2, .int ((h_X7_cellSign M 0).1)), (0, .ref b), (1, .ref (b + 3))]) hx hb dX7_readHydrant_5 rfl hl (by decide) rfl (fun ls hl => ?_)
  refine lv_iload_n hx hb dX7_readHydrant_6 rfl (lv_at hl 0 rfl) ?_
  refine lv_iconst (v := -1) hx hb dX7_readHydrant_7 (by decide) ?_
  refine lv_icmp_eq (tgt := 50) hx hb dX7_readHydrant_8 (by decide) (fun c_1 => ?_) (fun c_1 => ?_)
  · refine lv_iconst (v := 0) hx hb dX7_readHydrant_50 (by decide) ?_
    have hE : h_X7_readHydrant M = (0, (h_X7_cellSign M 0).2) := (by rw [h_X7_readHydrant, if_pos c_1])
    have hE2 := snd_of hE
    exact W.zret (ty := .boolean) hx hb hr rfl (fun t ht hW => ⟨by rw [fst_of hE], by rw [ht, hE2]; exact hP, hS.F ht⟩) hS.2.2 dX7_readHydrant_51
  · refine lv_aload_n hx hb dX7_readHydrant_11 rfl (lv_at hl 1 rfl) ?_
    refine va_get (D := G.1) (ci := 5) (v := .int (mS ((h_X7_cellSign M 0).2))) (C := RX7) (T := TX7) (N := 12) hx hb hts hin7 hown hO.1 hP 0 rfl rfl 10 (by decide) hf_140 (fun _ h9 => h9) rfl dX7_readHydrant_12 ?_
    refine lv_aload_n hx hb dX7_readHydrant_15 rfl (lv_at hl 1 rfl) ?_
    refine va_get (D := G.1) (ci := 5) (v := .int (mZ ((h_X7_cellSign M 0).2))) (C := RX7) (T := TX7) (N := 12) hx hb hts hin7 hown hO.1 hP 0 rfl rfl 2 (by decide) hf_134 (fun _ h9 => h9) rfl dX7_readHydrant_16 ?_
    refine lv_icmp_eq (tgt := 50) hx hb dX7_readHydrant_19 (by decide) (fun c_2 => ?_) (fun c_2 => ?_)
    · refine lv_iconst (v := 0) hx hb dX7_readHydrant_50 (by decide) ?_
      have hE : h_X7_readHydrant M = (0, (h_X7_cellSign M 0).2) := (by rw [h_X7_readHydrant, if_neg c_1, if_pos c_2])
      have hE2 := snd_of hE
      exact W.zret (ty := .boolean) hx hb hr rfl (fun t ht hW => ⟨by rw [fst_of hE], by rw [ht, hE2]; exact hP, hS.F ht⟩) hS.2.2 dX7_readHydrant_51
    · refine lv_aload_n hx hb dX7_readHydrant_22 rfl (lv_at hl 1 rfl) ?_
      refine va_get (D := G.1) (ci := 5) (v := .ref (b + 1)) (C := RX7) (T := TX7) (N := 12) hx hb hts hin7 hown hO.1 hP 0 rfl rfl 1 (by decide) hf_7 (fun _ h9 => h9) rfl dX7_readHydrant_23 ?_
      refine lv_aload_n hx hb dX7_readHydrant_26 rfl (lv_at hl 1 rfl) ?_
      refine va_get (D := G.1) (ci := 5) (v := .int (mS ((h_X7_cellSign M 0).2))) (C := RX7) (T := TX7) (N := 12) hx hb hts hin7 hown hO.1 hP 0 rfl rfl 10 (by decide) hf_140 (fun _ h9 => h9) rfl dX7_readHydrant_27 ?_
      refine va_iald hx hb hO.1 hP 1 0 rfl rfl (TI.rd (by first | exact hTI | exact (hTI.up hsz).1 | (repeat (first | with_reducible exact (hTI.up hsz).1 | with_reducible apply fig_TI | with_reducible apply car_TI | with_reducible apply cel_TI))) (TI.ne (by first | exact hTI | exact (hTI.up hsz).1 | (repeat (first | with_reducible exact (hTI.up hsz).1 | with_reducible apply fig_TI | with_reducible apply car_TI | with_reducible apply cel_TI))) (by assumption))) dX7_readHydrant_30 ?_
      refine lv_bipush (v := 43) hx hb dX7_readHydrant_31 (by decide) ?_
      refine lv_icmp_eq (tgt := 52) hx hb dX7_readHydrant_33 (by decide) (fun c_3 => ?_) (fun c_3 => ?_)
      · refine lv_aload_n hx hb dX7_readHydrant_52 rfl (lv_at hl 1 rfl) ?_
        refine va_get (D := G.1) (ci := 5) (v := .ref (b + 1)) (C := RX7) (T := TX7) (N := 12) hx hb hts hin7 hown hO.1 hP 0 rfl rfl 1 (by decide) hf_7 (fun _ h9 => h9) rfl dX7_readHydrant_53 ?_
        refine lv_aload_n hx hb dX7_readHydrant_56 rfl (lv_at hl 1 rfl) ?_
        refine va_get (D := G.1) (ci := 5) (v := .int (mS ((h_X7_cellSign M 0).2))) (C := RX7) (T := TX7) (N := 12) hx hb hts hin7 hown hO.1 hP 0 rfl rfl 10 (by decide) hf_140 (fun _ h9 => h9) rfl dX7_readHydrant_57 ?_
        refine va_iald hx hb hO.1 hP 1 0 rfl rfl (TI.rd (by first | exact hTI | exact (hTI.up hsz).1 | (repeat (first | with_reducible exact (hTI.up hsz).1 | with_reducible apply fig_TI | with_reducible apply car_TI | with_reducible apply cel_TI))) (TI.ne (by first | exact hTI | exact (hTI.up hsz).1 | (repeat (first | with_reducible exact (hTI.up hsz).1 | with_reducible apply fig_TI | with_reducible apply car_TI | with_reducible apply cel_TI))) (by assumption))) dX7_readHydrant_60 ?_
        refine lv_bipush (v := 43) hx hb dX7_readHydrant_61 (by decide) ?_
        refine lv_icmp_ne (tgt := 70) hx hb dX7_readHydrant_63 (by decide) (fun c_4 => ?_) (fun c_4 => ?_)
        · exact absurd c_3 c_4
        · refine lv_iconst (v := 1) hx hb dX7_readHydrant_66 (by decide) ?_
          refine lv_goto (tgt := 71) hx hb dX7_readHydrant_67 (by decide) ?_
          refine lv_istore_n (lv' := [(3, .int 1), (2, .int ((h_X7_cellSign M 0).1)), (0, .ref b), (1, .ref (b + 3))]) hx hb dX7_readHydrant_71 rfl hl (by decide) rfl (fun ls hl => ?_)
          refine lv_aload_n hx hb dX7_readHydrant_72 rfl (lv_at hl 2 rfl) ?_
          refine lv_dup hx hb dX7_readHydrant_73 rfl ?_
          refine va_get (D := G.1) (ci := 5) (v := .int (mS ((h_X7_cellSign M 0).2))) (C := RX7) (T := TX7) (N := 12) hx hb hts hin7 hown hO.1 hP 0 rfl rfl 10 (by decide) hf_140 (fun _ h9 => h9) rfl dX7_readHydrant_74 ?_
          refine lv_iconst (v := 1) hx hb dX7_readHydrant_77 (by decide) ?_
          refine lv_iadd hx hb dX7_readHydrant_78 ?_
          refine va_put (D := G.1) (ci := 5) (v := .int ((mS ((h_X7_cellSign M 0).2)) + 1)) (ty := .int) (C := RX7) (T := TX7) (N := 12) hx hb hts hin7 tyX7 tyX7_ok nmX7 hown hO.1 hP (md_D b ((h_X7_cellSign M 0).2) hA) hS 0 rfl rfl 10 (by decide) hf_140 (fun _ h9 => h9) rfl (by decide +kernel) rfl rfl (Nat.le_of_ble_eq_true rfl) dX7_readHydrant_79 (fun H locs hP hD hS => ?_)
          have hP : Md G b (oS ((h_X7_cellSign M 0).2) ((mS ((h_X7_cellSign M 0).2)) + 1)) H := md_pS hP
          refine lv_aload_n hx hb dX7_readHydrant_82 rfl (lv_at hl 2 rfl) ?_
          refine lv_aload_n hx hb dX7_readHydrant_83 rfl (lv_at hl 3 rfl) ?_
          refine lv_iload_n hx hb dX7_readHydrant_84 rfl (lv_at hl 1 rfl) ?_
          refine lv_iload_n hx hb dX7_readHydrant_85 rfl (lv_at hl 0 rfl) ?_
          refine cl_pi (rS (As := [.ref (b + 3), .int ((h_X7_cellSign M 0).1), .int 1]) (rest := [.ref b]) ⟨hx, hb, hml, hown, hts⟩ (c_X7_canHydrant l G (b + 3) (mR (oS ((h_X7_cellSign M 0).2) ((mS ((h_X7_cellSign M 0).2)) + 1))) ((h_X7_cellSign M 0).1) 1) (va_cwS 3 hts gX7_readHydrant_X7_canHydrant rfl rfl rfl (by decide +kernel) ⟨Nat.le_of_ble_eq_true rfl, Nat.le_of_ble_eq_true rfl⟩) (va_P.sub hP [3] rfl) hO rfl hl.1 (Nat.le_of_ble_eq_true rfl) dX7_readHydrant_86 ⟨Nat.le_of_ble_eq_true rfl, Nat.le_of_ble_eq_true rfl⟩) ?_
          refine lv_if_eq (tgt := 105) hx hb dX7_readHydrant_89 (by decide) (fun c_5 => ?_) (fun c_5 => ?_)
          · refine lv_iconst (v := 0) hx hb dX7_readHydrant_105 (by decide) ?_
            refine cl_mi (rV (As := [.int 0]) (rest := []) ⟨hx, hb, hml, hown, hts⟩ (c_X7_done l G b (oS ((h_X7_cellSign M 0).2) ((mS ((h_X7_cellSign M 0).2)) + 1)) 0) (cwV 1 hts gX7_readHydrant_X7_done rfl rfl rfl (by decide +kernel) ⟨Nat.le_of_ble_eq_true rfl, Nat.le_of_ble_eq_true rfl⟩) (md_recv hO hP) hP hO rfl hl.1 (Nat.le_of_ble_eq_true rfl) dX7_readHydrant_106 ⟨Nat.le_of_ble_eq_true rfl, Nat.le_of_ble_eq_true rfl⟩) hS hA (fun H locs hP1 hz hk hS => ?_)
            have hP : Md G b ((h_X7_done (oS ((h_X7_cellSign M 0).2) ((mS ((h_X7_cellSign M 0).2)) + 1)) 0).2) H := hP1
            have hE : h_X7_readHydrant M = ((h_X7_done (oS ((h_X7_cellSign M 0).2) ((mS ((h_X7_cellSign M 0).2)) + 1)) 0).1, (h_X7_done (oS ((h_X7_cellSign M 0).2) ((mS ((h_X7_cellSign M 0).2)) + 1)) 0).2) := (by rw [h_X7_readHydrant, if_neg c_1, if_neg c_2, if_pos c_3, if_pos c_5])
            have hE2 := snd_of hE
            exact W.zret (ty := .boolean) hx hb hr (nar_b (b_h_X7_done ..)) (fun t ht hW => ⟨by rw [fst_of hE], by rw [ht, hE2]; exact hP, hS.F ht⟩) hS.2.2 dX7_readHydrant_109
          · refine lv_aload_n hx hb dX7_readHydrant_92 rfl (lv_at hl 3 rfl) ?_
            refine lv_iload_n hx hb dX7_readHydrant_93 rfl (lv_at hl 1 rfl) ?_
            refine lv_iload_n hx hb dX7_readHydrant_94 rfl (lv_at hl 0 rfl) ?_
            refine cl_mi (rS (As := [.ref (b + 3), .int ((h_X7_cellSign M 0).1), .int 1]) (rest := [.ref b]) ⟨hx, hb, hml, hown, hts⟩ (c_X7_hydrantOn_raw l G (b + 3) (mR (oS ((h_X7_cellSign M 0).2) ((mS ((h_X7_cellSign M 0).2)) + 1))) ((h_X7_cellSign M 0).1) 1 (hyd_n (by assumption))) (va_cwS 3 hts gX7_readHydrant_X7_hydrantOn rfl rfl rfl (by decide +kernel) ⟨Nat.le_of_ble_eq_true rfl, Nat.le_of_ble_eq_true rfl⟩) (va_P.sub hP [3] rfl) hO rfl hl.1 (Nat.le_of_ble_eq_true rfl) dX7_readHydrant_95 ⟨Nat.le_of_ble_eq_true rfl, Nat.le_of_ble_eq_true rfl⟩) hS (fun q h => hA q (by simp only [one, blk] at *; omega)) (fun H locs hP1 hz hk hS => ?_)
            have hP : Md G b (oR (oS ((h_X7_cellSign M 0).2) ((mS ((h_X7_cellSign M 0).2)) + 1)) ((h_X7_hydrantOn (mR (oS ((h_X7_cellSign M 0).2) ((mS ((h_X7_cellSign M 0).2)) + 1))) (((h_X7_cellSign M 0).1).toNatClampNeg) 1).2)) H := md_pR (mo_row 3 hP rfl hP1 hk)
            refine lv_if_lt (tgt := 105) hx hb dX7_readHydrant_98 (by decide) (fun c_6 => ?_) (fun c_6 => ?_)
            · refine lv_iconst (v := 0) hx hb dX7_readHydrant_105 (by decide) ?_
              refine cl_mi (rV (As := [.int 0]) (rest := []) ⟨hx, hb, hml, hown, hts⟩ (c_X7_done l G b (oR (oS ((h_X7_cellSign M 0).2) ((mS ((h_X7_cellSign M 0).2)) + 1)) ((h_X7_hydrantOn (mR (oS ((h_X7_cellSign M 0).2) ((mS ((h_X7_cellSign M 0).2)) + 1))) (((h_X7_cellSign M 0).1).toNatClampNeg) 1).2)) 0) (cwV 1 hts gX7_readHydrant_X7_done rfl rfl rfl (by decide +kernel) ⟨Nat.le_of_ble_eq_true rfl, Nat.le_of_ble_eq_true rfl⟩) (md_recv hO hP) hP hO rfl hl.1 (Nat.le_of_ble_eq_true rfl) dX7_readHydrant_106 ⟨Nat.le_of_ble_eq_true rfl, Nat.le_of_ble_eq_true rfl⟩) hS hA (fun H locs hP1 hz hk hS => ?_)
              have hP : Md G b ((h_X7_done (oR (oS ((h_X7_cellSign M 0).2) ((mS ((h_X7_cellSign M 0).2)) + 1)) ((h_X7_hydrantOn (mR (oS ((h_X7_cellSign M 0).2) ((mS ((h_X7_cellSign M 0).2)) + 1))) (((h_X7_cellSign M 0).1).toNatClampNeg) 1).2)) 0).2) H := hP1
              have hE : h_X7_readHydrant M = ((h_X7_done (oR (oS ((h_X7_cellSign M 0).2) ((mS ((h_X7_cellSign M 0).2)) + 1)) ((h_X7_hydrantOn (mR (oS ((h_X7_cellSign M 0).2) ((mS ((h_X7_cellSign M 0).2)) + 1))) (((h_X7_cellSign M 0).1).toNatClampNeg) 1).2)) 0).1, (h_X7_done (oR (oS ((h_X7_cellSign M 0).2) ((mS ((h_X7_cellSign M 0).2)) + 1)) ((h_X7_hydrantOn (mR (oS ((h_X7_cellSign M 0).2) ((mS ((h_X7_cellSign M 0).2)) + 1))) (((h_X7_cellSign M 0).1).toNatClampNeg) 1).2)) 0).2) := (by rw [h_X7_readHydrant, if_neg c_1, if_neg c_2, if_pos c_3, if_neg c_5, if_pos c_6])
              have hE2 := snd_of hE
              exact W.zret (ty := .boolean) hx hb hr (nar_b (b_h_X7_done ..)) (fun t ht hW => ⟨by rw [fst_of hE], by rw [ht, hE2]; exact hP, hS.F ht⟩) hS.2.2 dX7_readHydrant_109
            · refine lv_iconst (v := 1) hx hb dX7_readHydrant_101 (by decide) ?_
              refine lv_goto (tgt := 106) hx hb dX7_readHydrant_102 (by decide) ?_
              refine cl_mi (rV (As := [.int 1]) (rest := []) ⟨hx, hb, hml, hown, hts⟩ (c_X7_done l G b (oR (oS ((h_X7_cellSign M 0).2) ((mS ((h_X7_cellSign M 0).2)) + 1)) ((h_X7_hydrantOn (mR (oS ((h_X7_cellSign M 0).2) ((mS ((h_X7_cellSign M 0).2)) + 1))) (((h_X7_cellSign M 0).1).toNatClampNeg) 1).2)) 1) (cwV 1 hts gX7_readHydrant_X7_done rfl rfl rfl (by decide +kernel) ⟨Nat.le_of_ble_eq_true rfl, Nat.le_of_ble_eq_true rfl⟩) (md_recv hO hP) hP hO rfl hl.1 (Nat.le_of_ble_eq_true rfl) dX7_readHydrant_106 ⟨Nat.le_of_ble_eq_true rfl, Nat.le_of_ble_eq_true rfl⟩) hS hA (fun H locs hP1 hz hk hS => ?_)
              have hP : Md G b ((h_X7_done (oR (oS ((h_X7_cellSign M 0).2) ((mS ((h_X7_cellSign M 0).2)) + 1)) ((h_X7_hydrantOn (mR (oS ((h_X7_cellSign M 0).2) ((mS ((h_X7_cellSign M 0).2)) + 1))) (((h_X7_cellSign M 0).1).toNatClampNeg) 1).2)) 1).2) H := hP1
              have hE : h_X7_readHydrant M = ((h_X7_done (oR (oS ((h_X7_cellSign M 0).2) ((mS ((h_X7_cellSign M 0).2)) + 1)) ((h_X7_hydrantOn (mR (oS ((h_X7_cellSign M 0).2) ((mS ((h_X7_cellSign M 0).2)) + 1))) (((h_X7_cellSign M 0).1).toNatClampNeg) 1).2)) 1).1, (h_X7_done (oR (oS ((h_X7_cellSign M 0).2) ((mS ((h_X7_cellSign M 0).2)) + 1)) ((h_X7_hydrantOn (mR (oS ((h_X7_cellSign M 0).2) ((mS ((h_X7_cellSign M 0).2)) + 1))) (((h_X7_cellSign M 0).1).toNatClampNeg) 1).2)) 1).2) := (by rw [h_X7_readHydrant, if_neg c_1, if_neg c_2, if_pos c_3, if_neg c_5, if_neg c_6])
              have hE2 := snd_of hE
              exact W.zret (ty := .boolean) hx hb hr (nar_b (b_h_X7_done ..)) (fun t ht hW => ⟨by rw [fst_of hE], by rw [ht, hE2]; exact hP, hS.F ht⟩) hS.2.2 dX7_readHydrant_109
      · refine lv_aload_n hx hb dX7_readHydrant_36 rfl (lv_at hl 1 rfl) ?_
        refine va_get (D := G.1) (ci := 5) (v := .ref (b + 1)) (C := RX7) (T := TX7) (N := 12) hx hb hts hin7 hown hO.1 hP 0 rfl rfl 1 (by decide) hf_7 (fun _ h9 => h9) rfl dX7_readHydrant_37 ?_
        refine lv_aload_n hx hb dX7_readHydrant_40 rfl (lv_at hl 1 rfl) ?_
        refine va_get (D := G.1) (ci := 5) (v := .int (mS ((h_X7_cellSign M 0).2))) (C := RX7) (T := TX7) (N := 12) hx hb hts hin7 hown hO.1 hP 0 rfl rfl 10 (by decide) hf_140 (fun _ h9 => h9) rfl dX7_readHydrant_41 ?_
        refine va_iald hx hb hO.1 hP 1 0 rfl rfl (TI.rd (by first | exact hTI | exact (hTI.up hsz).1 | (repeat (first | with_reducible exact (hTI.up hsz).1 | with_reducible apply fig_TI | with_reducible apply car_TI | with_reducible apply cel_TI))) (TI.ne (by first | exact hTI | exact (hTI.up hsz).1 | (repeat (first | with_reducible exact (hTI.up hsz).1 | with_reducible apply fig_TI | with_reducible apply car_TI | with_reducible apply cel_TI))) (by assumption))) dX7_readHydrant_44 ?_
        refine lv_bipush (v := 45) hx hb dX7_readHydrant_45 (by decide) ?_
        refine lv_icmp_eq (tgt := 52) hx hb dX7_readHydrant_47 (by decide) (fun c_7 => ?_) (fun c_7 => ?_)
        · refine lv_aload_n hx hb dX7_readHydrant_52 rfl (lv_at hl 1 rfl) ?_
          refine va_get (D := G.1) (ci := 5) (v := .ref (b + 1)) (C := RX7) (T := TX7) (N := 12) hx hb hts hin7 hown hO.1 hP 0 rfl rfl 1 (by decide) hf_7 (fun _ h9 => h9) rfl dX7_readHydrant_53 ?_
          refine lv_aload_n hx hb dX7_readHydrant_56 rfl (lv_at hl 1 rfl) ?_
          refine va_get (D := G.1) (ci := 5) (v := .int (mS ((h_X7_cellSign M 0).2))) (C := RX7) (T := TX7) (N := 12) hx hb hts hin7 hown hO.1 hP 0 rfl rfl 10 (by decide) hf_140 (fun _ h9 => h9) rfl dX7_readHydrant_57 ?_
          refine va_iald hx hb hO.1 hP 1 0 rfl rfl (TI.rd (by first | exact hTI | exact (hTI.up hsz).1 | (repeat (first | with_reducible exact (hTI.up hsz).1 | with_reducible apply fig_TI | with_reducible apply car_TI | with_reducible apply cel_TI))) (TI.ne (by first | exact hTI | exact (hTI.up hsz).1 | (repeat (first | with_reducible exact (hTI.up hsz).1 | with_reducible apply fig_TI | with_reducible apply car_TI | with_reducible apply cel_TI))) (by assumption))) dX7_readHydrant_60 ?_
          refine lv_bipush (v := 43) hx hb dX7_readHydrant_61 (by decide) ?_
          refine lv_icmp_ne (tgt := 70) hx hb dX7_readHydrant_63 (by decide) (fun c_8 => ?_) (fun c_8 => ?_)
          · refine lv_iconst (v := 0) hx hb dX7_readHydrant_70 (by decide) ?_
            refine lv_istore_n (lv' := [(3, .int 0), (2, .int ((h_X7_cellSign M 0).1)), (0, .ref b), (1, .ref (b + 3))]) hx hb dX7_readHydrant_71 rfl hl (by decide) rfl (fun ls hl => ?_)
            refine lv_aload_n hx hb dX7_readHydrant_72 rfl (lv_at hl 2 rfl) ?_
            refine lv_dup hx hb dX7_readHydrant_73 rfl ?_
            refine va_get (D := G.1) (ci := 5) (v := .int (mS ((h_X7_cellSign M 0).2))) (C := RX7) (T := TX7) (N := 12) hx hb hts hin7 hown hO.1 hP 0 rfl rfl 10 (by decide) hf_140 (fun _ h9 => h9) rfl dX7_readHydrant_74 ?_
            refine lv_iconst (v := 1) hx hb dX7_readHydrant_77 (by decide) ?_
            refine lv_iadd hx hb dX7_readHydrant_78 ?_
            refine va_put (D := G.1) (ci := 5) (v := .int ((mS ((h_X7_cellSign M 0).2)) + 1)) (ty := .int) (C := RX7) (T := TX7) (N := 12) hx hb hts hin7 tyX7 tyX7_ok nmX7 hown hO.1 hP (md_D b ((h_X7_cellSign M 0).2) hA) hS 0 rfl rfl 10 (by decide) hf_140 (fun _ h9 => h9) rfl (by decide +kernel) rfl rfl (Nat.le_of_ble_eq_true rfl) dX7_readHydrant_79 (fun H locs hP hD hS => ?_)
            have hP : Md G b (oS ((h_X7_cellSign M 0).2) ((mS ((h_X7_cellSign M 0).2)) + 1)) H := md_pS hP
            refine lv_aload_n hx hb dX7_readHydrant_82 rfl (lv_at hl 2 rfl) ?_
            refine lv_aload_n hx hb dX7_readHydrant_83 rfl (lv_at hl 3 rfl) ?_
            refine lv_iload_n hx hb dX7_readHydrant_84 rfl (lv_at hl 1 rfl) ?_
            refine lv_iload_n hx hb dX7_readHydrant_85 rfl (lv_at hl 0 rfl) ?_
            refine cl_pi (rS (As := [.ref (b + 3), .int ((h_X7_cellSign M 0).1), .int 0]) (rest := [.ref b]) ⟨hx, hb, hml, hown, hts⟩ (c_X7_canHydrant l G (b + 3) (mR (oS ((h_X7_cellSign M 0).2) ((mS ((h_X7_cellSign M 0).2)) + 1))) ((h_X7_cellSign M 0).1) 0) (va_cwS 3 hts gX7_readHydrant_X7_canHydrant rfl rfl rfl (by decide +kernel) ⟨Nat.le_of_ble_eq_true rfl, Nat.le_of_ble_eq_true rfl⟩) (va_P.sub hP [3] rfl) hO rfl hl.1 (Nat.le_of_ble_eq_true rfl) dX7_readHydrant_86 ⟨Nat.le_of_ble_eq_true rfl, Nat.le_of_ble_eq_true rfl⟩) ?_
            refine lv_if_eq (tgt := 105) hx hb dX7_readHydrant_89 (by decide) (fun c_9 => ?_) (fun c_9 => ?_)
            · refine lv_iconst (v := 0) hx hb dX7_readHydrant_105 (by decide) ?_
              refine cl_mi (rV (As := [.int 0]) (rest := []) ⟨hx, hb, hml, hown, hts⟩ (c_X7_done l G b (oS ((h_X7_cellSign M 0).2) ((mS ((h_X7_cellSign M 0).2)) + 1)) 0) (cwV 1 hts gX7_readHydrant_X7_done rfl rfl rfl (by decide +kernel) ⟨Nat.le_of_ble_eq_true rfl, Nat.le_of_ble_eq_true rfl⟩) (md_recv hO hP) hP hO rfl hl.1 (Nat.le_of_ble_eq_true rfl) dX7_readHydrant_106 ⟨Nat.le_of_ble_eq_true rfl, Nat.le_of_ble_eq_true rfl⟩) hS hA (fun H locs hP1 hz hk hS => ?_)
              have hP : Md G b ((h_X7_done (oS ((h_X7_cellSign M 0).2) ((mS ((h_X7_cellSign M 0).2)) + 1)) 0).2) H := hP1
              have hE : h_X7_readHydrant M = ((h_X7_done (oS ((h_X7_cellSign M 0).2) ((mS ((h_X7_cellSign M 0).2)) + 1)) 0).1, (h_X7_done (oS ((h_X7_cellSign M 0).2) ((mS ((h_X7_cellSign M 0).2)) + 1)) 0).2) := (by rw [h_X7_readHydrant, if_neg c_1, if_neg c_2, if_neg c_3, if_pos c_7, if_pos c_9])
              have hE2 := snd_of hE
              exact W.zret (ty := .boolean) hx hb hr (nar_b (b_h_X7_done ..)) (fun t ht hW => ⟨by rw [fst_of hE], by rw [ht, hE2]; exact hP, hS.F ht⟩) hS.2.2 dX7_readHydrant_109
            · refine lv_aload_n hx hb dX7_readHydrant_92 rfl (lv_at hl 3 rfl) ?_
              refine lv_iload_n hx hb dX7_readHydrant_93 rfl (lv_at hl 1 rfl) ?_
              refine lv_iload_n hx hb dX7_readHydrant_94 rfl (lv_at hl 0 rfl) ?_
              refine cl_mi (rS (As := [.ref (b + 3), .int ((h_X7_cellSign M 0).1), .int 0]) (rest := [.ref b]) ⟨hx, hb, hml, hown, hts⟩ (c_X7_hydrantOn_raw l G (b + 3) (mR (oS ((h_X7_cellSign M 0).2) ((mS ((h_X7_cellSign M 0).2)) + 1))) ((h_X7_cellSign M 0).1) 0 (hyd_n (by assumption))) (va_cwS 3 hts gX7_readHydrant_X7_hydrantOn rfl rfl rfl (by decide +kernel) ⟨Nat.le_of_ble_eq_true rfl, Nat.le_of_ble_eq_true rfl⟩) (va_P.sub hP [3] rfl) hO rfl hl.1 (Nat.le_of_ble_eq_true rfl) dX7_readHydrant_95 ⟨Nat.le_of_ble_eq_true rfl, Nat.le_of_ble_eq_true rfl⟩) hS (fun q h => hA q (by simp only [one, blk] at *; omega)) (fun H locs hP1 hz hk hS => ?_)
              have hP : Md G b (oR (oS ((h_X7_cellSign M 0).2) ((mS ((h_X7_cellSign M 0).2)) + 1)) ((h_X7_hydrantOn (mR (oS ((h_X7_cellSign M 0).2) ((mS ((h_X7_cellSign M 0).2)) + 1))) (((h_X7_cellSign M 0).1).toNatClampNeg) 0).2)) H := md_pR (mo_row 3 hP rfl hP1 hk)
              refine lv_if_lt (tgt := 105) hx hb dX7_readHydrant_98 (by decide) (fun c_10 => ?_) (fun c_10 => ?_)
              · refine lv_iconst (v := 0) hx hb dX7_readHydrant_105 (by decide) ?_
                refine cl_mi (rV (As := [.int 0]) (rest := []) ⟨hx, hb, hml, hown, hts⟩ (c_X7_done l G b (oR (oS ((h_X7_cellSign M 0).2) ((mS ((h_X7_cellSign M 0).2)) + 1)) ((h_X7_hydrantOn (mR (oS ((h_X7_cellSign M 0).2) ((mS ((h_X7_cellSign M 0).2)) + 1))) (((h_X7_cellSign M 0).1).toNatClampNeg) 0).2)) 0) (cwV 1 hts gX7_readHydrant_X7_done rfl rfl rfl (by decide +kernel) ⟨Nat.le_of_ble_eq_true rfl, Nat.le_of_ble_eq_true rfl⟩) (md_recv hO hP) hP hO rfl hl.1 (Nat.le_of_ble_eq_true rfl) dX7_readHydrant_106 ⟨Nat.le_of_ble_eq_true rfl, Nat.le_of_ble_eq_true rfl⟩) hS hA (fun H locs hP1 hz hk hS => ?_)
                have hP : Md G b ((h_X7_done (oR (oS ((h_X7_cellSign M 0).2) ((mS ((h_X7_cellSign M 0).2)) + 1)) ((h_X7_hydrantOn (mR (oS ((h_X7_cellSign M 0).2) ((mS ((h_X7_cellSign M 0).2)) + 1))) (((h_X7_cellSign M 0).1).toNatClampNeg) 0).2)) 0).2) H := hP1
                have hE : h_X7_readHydrant M = ((h_X7_done (oR (oS ((h_X7_cellSign M 0).2) ((mS ((h_X7_cellSign M 0).2)) + 1)) ((h_X7_hydrantOn (mR (oS ((h_X7_cellSign M 0).2) ((mS ((h_X7_cellSign M 0).2)) + 1))) (((h_X7_cellSign M 0).1).toNatClampNeg) 0).2)) 0).1, (h_X7_done (oR (oS ((h_X7_cellSign M 0).2) ((mS ((h_X7_cellSign M 0).2)) + 1)) ((h_X7_hydrantOn (mR (oS ((h_X7_cellSign M 0).2) ((mS ((h_X7_cellSign M 0).2)) + 1))) (((h_X7_cellSign M 0).1).toNatClampNeg) 0).2)) 0).2) := (by rw [h_X7_readHydrant, if_neg c_1, if_neg c_2, if_neg c_3, if_pos c_7, if_neg c_9, if_pos c_10])
                have hE2 := snd_of hE
                exact W.zret (ty := .boolean) hx hb hr (nar_b (b_h_X7_done ..)) (fun t ht hW => ⟨by rw [fst_of hE], by rw [ht, hE2]; exact hP, hS.F ht⟩) hS.2.2 dX7_readHydrant_109
              · refine lv_iconst (v := 1) hx hb dX7_readHydrant_101 (by decide) ?_
                refine lv_goto (tgt := 106) hx hb dX7_readHydrant_102 (by decide) ?_
                refine cl_mi (rV (As := [.int 1]) (rest := []) ⟨hx, hb, hml, hown, hts⟩ (c_X7_done l G b (oR (oS ((h_X7_cellSign M 0).2) ((mS ((h_X7_cellSign M 0).2)) + 1)) ((h_X7_hydrantOn (mR (oS ((h_X7_cellSign M 0).2) ((mS ((h_X7_cellSign M 0).2)) + 1))) (((h_X7_cellSign M 0).1).toNatClampNeg) 0).2)) 1) (cwV 1 hts gX7_readHydrant_X7_done rfl rfl rfl (by decide +kernel) ⟨Nat.le_of_ble_eq_true rfl, Nat.le_of_ble_eq_true rfl⟩) (md_recv hO hP) hP hO rfl hl.1 (Nat.le_of_ble_eq_true rfl) dX7_readHydrant_106 ⟨Nat.le_of_ble_eq_true rfl, Nat.le_of_ble_eq_true rfl⟩) hS hA (fun H locs hP1 hz hk hS => ?_)
                have hP : Md G b ((h_X7_done (oR (oS ((h_X7_cellSign M 0).2) ((mS ((h_X7_cellSign M 0).2)) + 1)) ((h_X7_hydrantOn (mR (oS ((h_X7_cellSign M 0).2) ((mS ((h_X7_cellSign M 0).2)) + 1))) (((h_X7_cellSign M 0).1).toNatClampNeg) 0).2)) 1).2) H := hP1
                have hE : h_X7_readHydrant M = ((h_X7_done (oR (oS ((h_X7_cellSign M 0).2) ((mS ((h_X7_cellSign M 0).2)) + 1)) ((h_X7_hydrantOn (mR (oS ((h_X7_cellSign M 0).2) ((mS ((h_X7_cellSign M 0).2)) + 1))) (((h_X7_cellSign M 0).1).toNatClampNeg) 0).2)) 1).1, (h_X7_done (oR (oS ((h_X7_cellSign M 0).2) ((mS ((h_X7_cellSign M 0).2)) + 1)) ((h_X7_hydrantOn (mR (oS ((h_X7_cellSign M 0).2) ((mS ((h_X7_cellSign M 0).2)) + 1))) (((h_X7_cellSign M 0).1).toNatClampNeg) 0).2)) 1).2) := (by rw [h_X7_readHydrant, if_neg c_1, if_neg c_2, if_neg c_3, if_pos c_7, if_neg c_9, if_neg c_10])
                have hE2 := snd_of hE
                exact W.zret (ty := .boolean) hx hb hr (nar_b (b_h_X7_done ..)) (fun t ht hW => ⟨by rw [fst_of hE], by rw [ht, hE2]; exact hP, hS.F ht⟩) hS.2.2 dX7_readHydrant_109
          · exact absurd c_8 c_3
        · refine lv_iconst (v := 0) hx hb dX7_readHydrant_50 (by decide) ?_
          have hE : h_X7_readHydrant M = (0, (h_X7_cellSign M 0).2) := (by rw [h_X7_readHydrant, if_neg c_1, if_neg c_2, if_neg c_3, if_neg c_7])
          have hE2 := snd_of hE
          exact W.zret (ty := .boolean) hx hb hr rfl (fun t ht hW => ⟨by rw [fst_of hE], by rw [ht, hE2]; exact hP, hS.F ht⟩) hS.2.2 dX7_readHydrant_51

theorem b_h_X7_readHydrant (M : Mo) : (h_X7_readHydrant M).1 = 0 ∨ (h_X7_readHydrant M).1 = 1 := by
  unfold h_X7_readHydrant
  repeat' split
  all_goals first | exact Or.inl rfl | exact Or.inr rfl

theorem done_R (M : Mo) (is : Int32) : mR (h_X7_done M is).2 = mR M := by
  rw [h_X7_done]
  repeat' split
  all_goals rfl
theorem done_Adv {M M' : Mo} {is : Int32} (h : Adv M M') : Adv M (h_X7_done M' is).2 := by
  rw [h_X7_done]
  repeat' split
  all_goals exact h.o rfl rfl
theorem oR_Adv {M M' : Mo} {g : Rw} (h : Adv M M') : Adv M (oR M' g) := h.o rfl rfl
theorem up_Adv {M M' : Mo} (h : Adv M M') (hn : ¬ mS M' = mZ M') : Adv M (oS M' (mS M' + 1)) := by
  have q := h.1.up (h.1.ne hn)
  exact ⟨q.1, by have := h.2.1; omega, by rw [q.2.2]; exact h.2.2⟩
theorem done_RI {M : Mo} {is : Int32} (h : RI (mR M)) : RI (mR (h_X7_done M is).2) := by
  rw [done_R]
  exact h
theorem fig_RI {M : Mo} {ah di lo hi : Int32} (h : RI (mR M)) : RI (mR (h_X7_figures M ah di lo hi).2) := by
  rw [fig_R]
  exact h
theorem car_RI {M : Mo} (h : RI (mR M)) : RI (mR (h_X7_carSign M).2) := by
  rw [car_R]
  exact h
theorem cel_RI {M : Mo} {ah : Int32} (h : RI (mR M)) : RI (mR (h_X7_cellSign M ah).2) := by
  rw [cel_R]
  exact h
theorem RI_hydq {g : Rw} {x on on' : Int32} (h : RI g) (hc : ¬ f_X7_canHydrant g x on = 0) : RI (h_X7_hydrantOn g x.toNatClampNeg on').2 := by
  obtain ⟨j, hj, rfl⟩ := hyd_n hc
  rw [nI_clamp (by omega)]
  exact RI_hyd h hj _

theorem hyd_Adv {M M' : Mo} (h : Adv M M') : Adv M (h_X7_readHydrant M').2 := by
  have h1 : Adv M (h_X7_cellSign M' 0).2 := cel_Adv h
  rw [h_X7_readHydrant]
  by_cases q1 : ((h_X7_cellSign M' 0).1) = (-1)
  · rw [if_pos q1]
    exact h1
  · rw [if_neg q1]
    by_cases q2 : (mS ((h_X7_cellSign M' 0).2)) = (mZ ((h_X7_cellSign M' 0).2))
    · rw [if_pos q2]
      exact h1
    · rw [if_neg q2]
      by_cases q3 : ((mT ((h_X7_cellSign M' 0).2)) (mS ((h_X7_cellSign M' 0).2)).toNatClampNeg) = 43
      · rw [if_pos q3]
        by_cases q4 : (f_X7_canHydrant (mR (oS ((h_X7_cellSign M' 0).2) ((mS ((h_X7_cellSign M' 0).2)) + 1))) ((h_X7_cellSign M' 0).1) 1) = 0
        · rw [if_pos q4]
          exact done_Adv (up_Adv h1 (by assumption))
        · rw [if_neg q4]
          by_cases q5 : ((h_X7_hydrantOn (mR (oS ((h_X7_cellSign M' 0).2) ((mS ((h_X7_cellSign M' 0).2)) + 1))) (((h_X7_cellSign M' 0).1).toNatClampNeg) 1).1) < 0
          · rw [if_pos q5]
            exact done_Adv (oR_Adv (up_Adv h1 (by assumption)))
          · rw [if_neg q5]
            exact done_Adv (oR_Adv (up_Adv h1 (by assumption)))
      · rw [if_neg q3]
        by_cases q6 : ((mT ((h_X7_cellSign M' 0).2)) (mS ((h_X7_cellSign M' 0).2)).toNatClampNeg) = 45
        · rw [if_pos q6]
          by_cases q7 : (f_X7_canHydrant (mR (oS ((h_X7_cellSign M' 0).2) ((mS ((h_X7_cellSign M' 0).2)) + 1))) ((h_X7_cellSign M' 0).1) 0) = 0
          · rw [if_pos q7]
            exact done_Adv (up_Adv h1 (by assumption))
          · rw [if_neg q7]
            by_cases q8 : ((h_X7_hydrantOn (mR (oS ((h_X7_cellSign M' 0).2) ((mS ((h_X7_cellSign M' 0).2)) + 1))) (((h_X7_cellSign M' 0).1).toNatClampNeg) 0).1) < 0
            · rw [if_pos q8]
              exact done_Adv (oR_Adv (up_Adv h1 (by assumption)))
            · rw [if_neg q8]
              exact done_Adv (oR_Adv (up_Adv h1 (by assumption)))
        · rw [if_neg q6]
          exact h1
theorem hyd_RI {M : Mo} (h : RI (mR M)) : RI (mR (h_X7_readHydrant M).2) := by
  have h1 : RI (mR (h_X7_cellSign M 0).2) := cel_RI h
  rw [h_X7_readHydrant]
  by_cases q1 : ((h_X7_cellSign M 0).1) = (-1)
  · rw [if_pos q1]
    exact h1
  · rw [if_neg q1]
    by_cases q2 : (mS ((h_X7_cellSign M 0).2)) = (mZ ((h_X7_cellSign M 0).2))
    · rw [if_pos q2]
      exact h1
    · rw [if_neg q2]
      by_cases q3 : ((mT ((h_X7_cellSign M 0).2)) (mS ((h_X7_cellSign M 0).2)).toNatClampNeg) = 43
      · rw [if_pos q3]
        by_cases q4 : (f_X7_canHydrant (mR (oS ((h_X7_cellSign M 0).2) ((mS ((h_X7_cellSign M 0).2)) + 1))) ((h_X7_cellSign M 0).1) 1) = 0
        · rw [if_pos q4]
          exact done_RI h1
        · rw [if_neg q4]
          by_cases q5 : ((h_X7_hydrantOn (mR (oS ((h_X7_cellSign M 0).2) ((mS ((h_X7_cellSign M 0).2)) + 1))) (((h_X7_cellSign M 0).1).toNatClampNeg) 1).1) < 0
          · rw [if_pos q5]
            exact done_RI (RI_oR (RI_hydq (g := mR (h_X7_cellSign M 0).2) h1 (by assumption)))
          · rw [if_neg q5]
            exact done_RI (RI_oR (RI_hydq (g := mR (h_X7_cellSign M 0).2) h1 (by assumption)))
      · rw [if_neg q3]
        by_cases q6 : ((mT ((h_X7_cellSign M 0).2)) (mS ((h_X7_cellSign M 0).2)).toNatClampNeg) = 45
        · rw [if_pos q6]
          by_cases q7 : (f_X7_canHydrant (mR (oS ((h_X7_cellSign M 0).2) ((mS ((h_X7_cellSign M 0).2)) + 1))) ((h_X7_cellSign M 0).1) 0) = 0
          · rw [if_pos q7]
            exact done_RI h1
          · rw [if_neg q7]
            by_cases q8 : ((h_X7_hydrantOn (mR (oS ((h_X7_cellSign M 0).2) ((mS ((h_X7_cellSign M 0).2)) + 1))) (((h_X7_cellSign M 0).1).toNatClampNeg) 0).1) < 0
            · rw [if_pos q8]
              exact done_RI (RI_oR (RI_hydq (g := mR (h_X7_cellSign M 0).2) h1 (by assumption)))
            · rw [if_neg q8]
              exact done_RI (RI_oR (RI_hydq (g := mR (h_X7_cellSign M 0).2) h1 (by assumption)))
        · rw [if_neg q6]
          exact h1
theorem RI.R3 {g : Rw} (h : RI g) : ∃ r, r ≤ 4 ∧ g 3 = nI r := h.2.1

def h_X7_readCommand (M : Mo) : Int32 × Mo :=
  if ((mT M) (mS M).toNatClampNeg) = 99 then (if ((h_X7_figures ((h_X7_figures (oS M ((mS M) + 1)) 0 1 2 8).2) ((h_X7_figures (oS M ((mS M) + 1)) 0 1 2 8).1) 2 1 99).1) = (-1) then (0, (h_X7_figures ((h_X7_figures (oS M ((mS M) + 1)) 0 1 2 8).2) ((h_X7_figures (oS M ((mS M) + 1)) 0 1 2 8).1) 2 1 99).2) else
    if 40 ≤ ((mR ((h_X7_figures ((h_X7_figures (oS M ((mS M) + 1)) 0 1 2 8).2) ((h_X7_figures (oS M ((mS M) + 1)) 0 1 2 8).1) 2 1 99).2)) 0) then (1, (h_X7_done ((h_X7_figures ((h_X7_figures (oS M ((mS M) + 1)) 0 1 2 8).2) ((h_X7_figures (oS M ((mS M) + 1)) 0 1 2 8).1) 2 1 99).2) 0).2) else
    if ((h_X7_comeOn (mR ((h_X7_figures ((h_X7_figures (oS M ((mS M) + 1)) 0 1 2 8).2) ((h_X7_figures (oS M ((mS M) + 1)) 0 1 2 8).1) 2 1 99).2)) ((h_X7_figures (oS M ((mS M) + 1)) 0 1 2 8).1) ((h_X7_figures ((h_X7_figures (oS M ((mS M) + 1)) 0 1 2 8).2) ((h_X7_figures (oS M ((mS M) + 1)) 0 1 2 8).1) 2 1 99).1)).1) < 0 then (1, (h_X7_done (oR ((h_X7_figures ((h_X7_figures (oS M ((mS M) + 1)) 0 1 2 8).2) ((h_X7_figures (oS M ((mS M) + 1)) 0 1 2 8).1) 2 1 99).2) ((h_X7_comeOn (mR ((h_X7_figures ((h_X7_figures (oS M ((mS M) + 1)) 0 1 2 8).2) ((h_X7_figures (oS M ((mS M) + 1)) 0 1 2 8).1) 2 1 99).2)) ((h_X7_figures (oS M ((mS M) + 1)) 0 1 2 8).1) ((h_X7_figures ((h_X7_figures (oS M ((mS M) + 1)) 0 1 2 8).2) ((h_X7_figures (oS M ((mS M) + 1)) 0 1 2 8).1) 2 1 99).1)).2)) 0).2) else
    (1, (h_X7_done (oR ((h_X7_figures ((h_X7_figures (oS M ((mS M) + 1)) 0 1 2 8).2) ((h_X7_figures (oS M ((mS M) + 1)) 0 1 2 8).1) 2 1 99).2) ((h_X7_comeOn (mR ((h_X7_figures ((h_X7_figures (oS M ((mS M) + 1)) 0 1 2 8).2) ((h_X7_figures (oS M ((mS M) + 1)) 0 1 2 8).1) 2 1 99).2)) ((h_X7_figures (oS M ((mS M) + 1)) 0 1 2 8).1) ((h_X7_figures ((h_X7_figures (oS M ((mS M) + 1)) 0 1 2 8).2) ((h_X7_figures (oS M ((mS M) + 1)) 0 1 2 8).1) 2 1 99).1)).2)) 1).2)) else
  if ((mT M) (mS M).toNatClampNeg) = 104 then ((h_X7_readHydrant (oS M ((mS M) + 1))).1, (h_X7_readHydrant (oS M ((mS M) + 1))).2) else
  if ((mT M) (mS M).toNatClampNeg) = 108 then (if ((h_X7_carSign (oS M ((mS M) + 1))).1) = (-1) then (0, (h_X7_carSign (oS M ((mS M) + 1))).2) else
    if (f_X7_isParked (mR ((h_X7_carSign (oS M ((mS M) + 1))).2)) ((h_X7_carSign (oS M ((mS M) + 1))).1)) = 0 then (1, (h_X7_done ((h_X7_carSign (oS M ((mS M) + 1))).2) 0).2) else
    if ((h_X7_goes (mR ((h_X7_carSign (oS M ((mS M) + 1))).2)) (((h_X7_carSign (oS M ((mS M) + 1))).1).toNatClampNeg) 2).1) < 0 then (1, (h_X7_done (oR ((h_X7_carSign (oS M ((mS M) + 1))).2) ((h_X7_goes (mR ((h_X7_carSign (oS M ((mS M) + 1))).2)) (((h_X7_carSign (oS M ((mS M) + 1))).1).toNatClampNeg) 2).2)) 0).2) else
    (1, (h_X7_done (oR ((h_X7_carSign (oS M ((mS M) + 1))).2) ((h_X7_goes (mR ((h_X7_carSign (oS M ((mS M) + 1))).2)) (((h_X7_carSign (oS M ((mS M) + 1))).1).toNatClampNeg) 2).2)) 1).2)) else
  if ((mT M) (mS M).toNatClampNeg) = 109 then (if ((h_X7_cellSign ((h_X7_carSign (oS M ((mS M) + 1))).2) ((h_X7_carSign (oS M ((mS M) + 1))).1)).1) = (-1) then (0, (h_X7_cellSign ((h_X7_carSign (oS M ((mS M) + 1))).2) ((h_X7_carSign (oS M ((mS M) + 1))).1)).2) else
    if (f_X7_isCar (mR ((h_X7_cellSign ((h_X7_carSign (oS M ((mS M) + 1))).2) ((h_X7_carSign (oS M ((mS M) + 1))).1)).2)) ((h_X7_carSign (oS M ((mS M) + 1))).1)) = 0 then (1, (h_X7_done ((h_X7_cellSign ((h_X7_carSign (oS M ((mS M) + 1))).2) ((h_X7_carSign (oS M ((mS M) + 1))).1)).2) 0).2) else
    if (f_X7_canMove (mR ((h_X7_cellSign ((h_X7_carSign (oS M ((mS M) + 1))).2) ((h_X7_carSign (oS M ((mS M) + 1))).1)).2)) (((h_X7_carSign (oS M ((mS M) + 1))).1).toNatClampNeg) (((h_X7_cellSign ((h_X7_carSign (oS M ((mS M) + 1))).2) ((h_X7_carSign (oS M ((mS M) + 1))).1)).1).toNatClampNeg)) = 0 then (1, (h_X7_done ((h_X7_cellSign ((h_X7_carSign (oS M ((mS M) + 1))).2) ((h_X7_carSign (oS M ((mS M) + 1))).1)).2) 0).2) else
    if ((h_X7_moveOn (mR ((h_X7_cellSign ((h_X7_carSign (oS M ((mS M) + 1))).2) ((h_X7_carSign (oS M ((mS M) + 1))).1)).2)) (((h_X7_carSign (oS M ((mS M) + 1))).1).toNatClampNeg) (((h_X7_cellSign ((h_X7_carSign (oS M ((mS M) + 1))).2) ((h_X7_carSign (oS M ((mS M) + 1))).1)).1).toNatClampNeg)).1) < 0 then (1, (h_X7_done (oR ((h_X7_cellSign ((h_X7_carSign (oS M ((mS M) + 1))).2) ((h_X7_carSign (oS M ((mS M) + 1))).1)).2) ((h_X7_moveOn (mR ((h_X7_cellSign ((h_X7_carSign (oS M ((mS M) + 1))).2) ((h_X7_carSign (oS M ((mS M) + 1))).1)).2)) (((h_X7_carSign (oS M ((mS M) + 1))).1).toNatClampNeg) (((h_X7_cellSign ((h_X7_carSign (oS M ((mS M) + 1))).2) ((h_X7_carSign (oS M ((mS M) + 1))).1)).1).toNatClampNeg)).2)) 0).2) else
    (1, (h_X7_done (oR ((h_X7_cellSign ((h_X7_carSign (oS M ((mS M) + 1))).2) ((h_X7_carSign (oS M ((mS M) + 1))).1)).2) ((h_X7_moveOn (mR ((h_X7_cellSign ((h_X7_carSign (oS M ((mS M) + 1))).2) ((h_X7_carSign (oS M ((mS M) + 1))).1)).2)) (((h_X7_carSign (oS M ((mS M) + 1))).1).toNatClampNeg) (((h_X7_cellSign ((h_X7_carSign (oS M ((mS M) + 1))).2) ((h_X7_carSign (oS M ((mS M) + 1))).1)).1).toNatClampNeg)).2)) 1).2)) else
  if ((mT M) (mS M).toNatClampNeg) = 112 then (if ((h_X7_figures (oS M ((mS M) + 1)) 0 2 1 60).1) = (-1) then (0, (h_X7_figures (oS M ((mS M) + 1)) 0 2 1 60).2) else
    if ((h_X7_minutesOn (mR ((h_X7_figures (oS M ((mS M) + 1)) 0 2 1 60).2)) ((h_X7_figures (oS M ((mS M) + 1)) 0 2 1 60).1)).1) < 0 then (1, (h_X7_done (oR ((h_X7_figures (oS M ((mS M) + 1)) 0 2 1 60).2) ((h_X7_minutesOn (mR ((h_X7_figures (oS M ((mS M) + 1)) 0 2 1 60).2)) ((h_X7_figures (oS M ((mS M) + 1)) 0 2 1 60).1)).2)) 0).2) else
    (1, (h_X7_done (oR ((h_X7_figures (oS M ((mS M) + 1)) 0 2 1 60).2) ((h_X7_minutesOn (mR ((h_X7_figures (oS M ((mS M) + 1)) 0 2 1 60).2)) ((h_X7_figures (oS M ((mS M) + 1)) 0 2 1 60).1)).2)) 1).2)) else
  if ((mT M) (mS M).toNatClampNeg) = 114 then (if ((h_X7_figures (oS M ((mS M) + 1)) 0 1 0 2).1) = (-1) then (0, (h_X7_figures (oS M ((mS M) + 1)) 0 1 0 2).2) else
    if ((h_X7_change (mR ((h_X7_figures (oS M ((mS M) + 1)) 0 1 0 2).2)) 0 ((h_X7_figures (oS M ((mS M) + 1)) 0 1 0 2).1)).1) < 0 then (1, (h_X7_done (oR ((h_X7_figures (oS M ((mS M) + 1)) 0 1 0 2).2) ((h_X7_change (mR ((h_X7_figures (oS M ((mS M) + 1)) 0 1 0 2).2)) 0 ((h_X7_figures (oS M ((mS M) + 1)) 0 1 0 2).1)).2)) 0).2) else
    (1, (h_X7_done (oR ((h_X7_figures (oS M ((mS M) + 1)) 0 1 0 2).2) ((h_X7_change (mR ((h_X7_figures (oS M ((mS M) + 1)) 0 1 0 2).2)) 0 ((h_X7_figures (oS M ((mS M) + 1)) 0 1 0 2).1)).2)) 1).2)) else
  if ((mT M) (mS M).toNatClampNeg) = 116 then (if ((h_X7_carSign (oS M ((mS M) + 1))).1) = (-1) then (0, (h_X7_carSign (oS M ((mS M) + 1))).2) else
    if (f_X7_isParked (mR ((h_X7_carSign (oS M ((mS M) + 1))).2)) ((h_X7_carSign (oS M ((mS M) + 1))).1)) = 0 then (1, (h_X7_done ((h_X7_carSign (oS M ((mS M) + 1))).2) 0).2) else
    if ((h_X7_goes (mR ((h_X7_carSign (oS M ((mS M) + 1))).2)) (((h_X7_carSign (oS M ((mS M) + 1))).1).toNatClampNeg) 4).1) < 0 then (1, (h_X7_done (oR ((h_X7_carSign (oS M ((mS M) + 1))).2) ((h_X7_goes (mR ((h_X7_carSign (oS M ((mS M) + 1))).2)) (((h_X7_carSign (oS M ((mS M) + 1))).1).toNatClampNeg) 4).2)) 0).2) else
    (1, (h_X7_done (oR ((h_X7_carSign (oS M ((mS M) + 1))).2) ((h_X7_goes (mR ((h_X7_carSign (oS M ((mS M) + 1))).2)) (((h_X7_carSign (oS M ((mS M) + 1))).1).toNatClampNeg) 4).2)) 1).2)) else
  (0, (oS (oS M ((mS M) + 1)) ((mS (oS M ((mS M) + 1))) - 1)))
set_option maxHeartbeats 40000000 in
set_option maxRecDepth 100000 in
theorem c_X7_readCommand (l : Launch) (G : GG) (b : Nat) (M : Mo) (hTI : TI M) (hsz : sp M < zz M) (hRI : RI (mR M)) : Met l yX7_readCommand wsX7_readCommand ({ frames := 7, cells := 0, slots := 0, locals := 158 }) (PcH G [.ref b, .ref (b + 3)] (Md G b M)) (QM (some (.int ((h_X7_readCommand M).1))) (Md G b ((h_X7_readCommand M).2)) (blk b (b + 8))) 0 0 (blk b (b + 8)) := by
  refine metH (cc := cX7_readCommand) (maxL := 5) (ret := (some .boolean)) (by decide) rfl ?_
  intro p e s m below meth cd hx hb hr hml hown hts hlocks hP hO
  have hin7 : ∀ w ∈ u_ws RX7 TX7 12, w ∈ wsX7_readCommand := by decide +kernel
  have hf_7 := hts (.fieldLink RX7 7 "CurbCarsModel" "text" "[I") (by decide +kernel)
  have hf_140 := hts (.fieldLink RX7 140 "CurbCarsModel" "spot" "I") (by decide +kernel)
  have hA : ∀ q, (blk b (b + 8)) q → (blk b (b + 8)) q := fun _ h => h
  have hS : va_S (blk b (b + 8)) s.heap s.heap [] := va_S.rf
  have hl := lv_entry ([.ref b, .ref (b + 3)]) (n := 5) (Nat.le_of_ble_eq_true rfl)
  rw [lg_entry_eq]
  generalize (lg_sl ([.ref b, .ref (b + 3)]) ++ List.replicate (5 - (lg_sl ([.ref b, .ref (b + 3)])).length) Slot.unset).toArray = ls at hl ⊢
  have hl : lv_has ls 5 [(0, .ref b), (1, .ref (b + 3))] := hl
  refine lv_aload_n hx hb dX7_readCommand_0 rfl (lv_at hl 0 rfl) ?_
  refine va_get (D := G.1) (ci := 5) (v := .ref (b + 1)) (C := RX7) (T := TX7) (N := 12) hx hb hts hin7 hown hO.1 hP 0 rfl rfl 1 (by decide) hf_7 (fun _ h9 => h9) rfl dX7_readCommand_1 ?_
  refine lv_aload_n hx hb dX7_readCommand_4 rfl (lv_at hl 0 rfl) ?_
  refine va_get (D := G.1) (ci := 5) (v := .int (mS M)) (C := RX7) (T := TX7) (N := 12) hx hb hts hin7 hown hO.1 hP 0 rfl rfl 10 (by decide) hf_140 (fun _ h9 => h9) rfl dX7_readCommand_5 ?_
  refine va_iald hx hb hO.1 hP 1 0 rfl rfl (hTI.rd hsz) dX7_readCommand_8 ?_
  refine lv_istore_n (lv' := [(2, .int ((mT M) (mS M).toNatClampNeg)), (0, .ref b), (1, .ref (b + 3))]) hx hb dX7_readCommand_9 rfl hl (by decide) rfl (fun ls hl => ?_)
  refine lv_aload_n hx hb dX7_readCommand_10 rfl (lv_at hl 1 rfl) ?_
  refine lv_dup hx hb dX7_readCommand_11 rfl ?_
  refine va_get (D := G.1) (ci := 5) (v := .int (mS M)) (C := RX7) (T := TX7) (N := 12) hx hb hts hin7 hown hO.1 hP 0 rfl rfl 10 (by decide) hf_140 (fun _ h9 => h9) rfl dX7_readCommand_12 ?_
  refine lv_iconst (v := 1) hx hb dX7_readCommand_15 (by decide) ?_
  refine lv_iadd hx hb dX7_readCommand_16 ?_
  refine va_put (D := G.1) (ci := 5) (v := .int ((mS M) + 1)) (ty := .int) (C := RX7) (T := TX7) (N := 12) hx hb hts hin7 tyX7 tyX7_ok nmX7 hown hO.1 hP (md_D b M hA) hS 0 rfl rfl 10 (by decide) hf_140 (fun _ h9 => h9) rfl (by decide +kernel) rfl rfl (Nat.le_of_ble_eq_true rfl) dX7_readCommand_17 (fun H locs hP hD hS => ?_)
  have hP : Md G b (oS M ((mS M) + 1)) H := md_pS hP
  refine lv_iload_n hx hb dX7_readCommand_20 rfl (lv_at hl 0 rfl) ?_
  by_cases c_1 : ((mT M) (mS M).toNatClampNeg) = 99
  · refine lv_tableIn (off := 93) (tgt := 114) hx hb dX7_readCommand_21 (by rw [c_1]; decide) (by rw [c_1]; decide) (by rw [c_1]; decide +kernel) (by decide) ?_
    refine lv_aload_n hx hb dX7_readCommand_114 rfl (lv_at hl 1 rfl) ?_
    refine lv_iconst (v := 0) hx hb dX7_readCommand_115 (by decide) ?_
    refine lv_iconst (v := 1) hx hb dX7_readCommand_116 (by decide) ?_
    refine lv_iconst (v := 2) hx hb dX7_readCommand_117 (by decide) ?_
    refine lv_bipush (v := 8) hx hb dX7_readCommand_118 (by decide) ?_
    refine cl_mi (rV (As := [.int 0, .int 1, .int 2, .int 8]) (rest := []) ⟨hx, hb, hml, hown, hts⟩ (c_X7_figures l G b (oS M ((mS M) + 1)) 0 1 2 8 (by first | exact hTI | exact (hTI.up hsz).1 | (repeat (first | with_reducible exact (hTI.up hsz).1 | with_reducible apply fig_TI | with_reducible apply car_TI | with_reducible apply cel_TI)))) (cwV 4 hts gX7_readCommand_X7_figures rfl rfl rfl (by decide +kernel) ⟨Nat.le_of_ble_eq_true rfl, Nat.le_of_ble_eq_true rfl⟩) (md_recv hO hP) hP hO rfl hl.1 (Nat.le_of_ble_eq_true rfl) dX7_readCommand_120 ⟨Nat.le_of_ble_eq_true rfl, Nat.le_of_ble_eq_true rfl⟩) hS hA (fun H locs hP1 hz hk hS => ?_)
    have hP : Md G b ((h_X7_figures (oS M ((mS M) + 1)) 0 1 2 8).2) H := hP1
    refine lv_istore_n (lv' := [(3, .int ((h_X7_figures (oS M ((mS M) + 1)) 0 1 2 8).1)), (2, .int ((mT M) (mS M).toNatClampNeg)), (0, .ref b), (1, .ref (b + 3))]) hx hb dX7_readCommand_123 rfl hl (by decide) rfl (fun ls hl => ?_)
    refine lv_aload_n hx hb dX7_readCommand_124 rfl (lv_at hl 2 rfl) ?_
    refine lv_iload_n hx hb dX7_readCommand_125 rfl (lv_at hl 0 rfl) ?_
    refine lv_iconst (v := 2) hx hb dX7_readCommand_126 (by decide) ?_
    refine lv_iconst (v := 1) hx hb dX7_readCommand_127 (by decide) ?_
    refine lv_bipush (v := 99) hx hb dX7_readCommand_128 (by decide) ?_
    refine cl_mi (rV (As := [.int ((h_X7_figures (oS M ((mS M) + 1)) 0 1 2 8).1), .int 2, .int 1, .int 99]) (rest := []) ⟨hx, hb, hml, hown, hts⟩ (c_X7_figures l G b ((h_X7_figures (oS M ((mS M) + 1)) 0 1 2 8).2) ((h_X7_figures (oS M ((mS M) + 1)) 0 1 2 8).1) 2 1 99 (by first | exact hTI | exact (hTI.up hsz).1 | (repeat (first | with_reducible exact (hTI.up hsz).1 | with_reducible apply fig_TI | with_reducible apply car_TI | with_reducible apply cel_TI)))) (cwV 4 hts gX7_readCommand_X7_figures rfl rfl rfl (by decide +kernel) ⟨Nat.le_of_ble_eq_true rfl, Nat.le_of_ble_eq_true rfl⟩) (md_recv hO hP) hP hO rfl hl.1 (Nat.le_of_ble_eq_true rfl) dX7_readCommand_130 ⟨Nat.le_of_ble_eq_true rfl, Nat.le_of_ble_eq_true rfl⟩) hS hA (fun H locs hP1 hz hk hS => ?_)
    have hP : Md G b ((h_X7_figures ((h_X7_figures (oS M ((mS M) + 1)) 0 1 2 8).2) ((h_X7_figures (oS M ((mS M) + 1)) 0 1 2 8).1) 2 1 99).2) H := hP1
    refine lv_istore (lv' := [(4, .int ((h_X7_figures ((h_X7_figures (oS M ((mS M) + 1)) 0 1 2 8).2) ((h_X7_figures (oS M ((mS M) + 1)) 0 1 2 8).1) 2 1 99).1)), (3, .int ((h_X7_figures (oS M ((mS M) + 1)) 0 1 2 8).1)), (2, .int ((mT M) (mS M).toNatClampNeg)), (0, .ref b), (1, .ref (b + 3))]) hx hb dX7_readCommand_133 hl (by decide) rfl (fun ls hl => ?_)
    refine lv_iload hx hb dX7_readCommand_135 (lv_at hl 0 rfl) ?_
    refine lv_iconst (v := -1) hx hb dX7_readCommand_137 (by decide) ?_
    refine lv_icmp_eq (tgt := 175) hx hb dX7_readCommand_138 (by decide) (fun c_2 => ?_) (fun c_2 => ?_)
    · refine lv_iconst (v := 0) hx hb dX7_readCommand_175 (by decide) ?_
      have hE : h_X7_readCommand M = (0, (h_X7_figures ((h_X7_figures (oS M ((mS M) + 1)) 0 1 2 8).2) ((h_X7_figures (oS M ((mS M) + 1)) 0 1 2 8).1) 2 1 99).2) := (by rw [h_X7_readCommand, if_pos c_1, if_pos c_2])
      have hE2 := snd_of hE
      exact W.zret (ty := .boolean) hx hb hr rfl (fun t ht hW => ⟨by rw [fst_of hE], by rw [ht, hE2]; exact hP, hS.F ht⟩) hS.2.2 dX7_readCommand_176
    · refine lv_aload_n hx hb dX7_readCommand_141 rfl (lv_at hl 3 rfl) ?_
      refine lv_aload_n hx hb dX7_readCommand_142 rfl (lv_at hl 4 rfl) ?_
      refine lv_iconst (v := 0) hx hb dX7_readCommand_143 (by decide) ?_
      refine iald_n (k := 0) hx hb hO.1 hP 3 0 rfl rfl (by omega) (by decide) dX7_readCommand_144 ?_
      refine lv_bipush (v := 40) hx hb dX7_readCommand_145 (by decide) ?_
      refine lv_icmp_ge (tgt := 164) hx hb dX7_readCommand_147 (by decide) (fun c_3 => ?_) (fun c_3 => ?_)
      · refine lv_iconst (v := 0) hx hb dX7_readCommand_164 (by decide) ?_
        refine cl_mi (rV (As := [.int 0]) (rest := []) ⟨hx, hb, hml, hown, hts⟩ (c_X7_done l G b ((h_X7_figures ((h_X7_figures (oS M ((mS M) + 1)) 0 1 2 8).2) ((h_X7_figures (oS M ((mS M) + 1)) 0 1 2 8).1) 2 1 99).2) 0) (cwV 1 hts gX7_readCommand_X7_done rfl rfl rfl (by decide +kernel) ⟨Nat.le_of_ble_eq_true rfl, Nat.le_of_ble_eq_true rfl⟩) (md_recv hO hP) hP hO rfl hl.1 (Nat.le_of_ble_eq_true rfl) dX7_readCommand_165 ⟨Nat.le_of_ble_eq_true rfl, Nat.le_of_ble_eq_true rfl⟩) hS hA (fun H locs hP1 hz hk hS => ?_)
        have hP : Md G b ((h_X7_done ((h_X7_figures ((h_X7_figures (oS M ((mS M) + 1)) 0 1 2 8).2) ((h_X7_figures (oS M ((mS M) + 1)) 0 1 2 8).1) 2 1 99).2) 0).2) H := hP1
        refine lv_if_eq (tgt := 175) hx hb dX7_readCommand_168 (by decide) (fun c_4 => ?_) (fun c_4 => ?_)
        · exact absurd c_4 (done_1 _ _)
        · refine lv_iconst (v := 1) hx hb dX7_readCommand_171 (by decide) ?_
          refine lv_goto (tgt := 176) hx hb dX7_readCommand_172 (by decide) ?_
          have hE : h_X7_readCommand M = (1, (h_X7_done ((h_X7_figures ((h_X7_figures (oS M ((mS M) + 1)) 0 1 2 8).2) ((h_X7_figures (oS M ((mS M) + 1)) 0 1 2 8).1) 2 1 99).2) 0).2) := (by rw [h_X7_readCommand, if_pos c_1, if_neg c_2, if_pos c_3])
          have hE2 := snd_of hE
          exact W.zret (ty := .boolean) hx hb hr rfl (fun t ht hW => ⟨by rw [fst_of hE], by rw [ht, hE2]; exact hP, hS.F ht⟩) hS.2.2 dX7_readCommand_176
      · refine lv_aload_n hx hb dX7_readCommand_150 rfl (lv_at hl 4 rfl) ?_
        refine lv_iload_n hx hb dX7_readCommand_151 rfl (lv_at hl 1 rfl) ?_
        refine lv_iload hx hb dX7_readCommand_152 (lv_at hl 0 rfl) ?_
        refine cl_mi (rS (As := [.ref (b + 3), .int ((h_X7_figures (oS M ((mS M) + 1)) 0 1 2 8).1), .int ((h_X7_figures ((h_X7_figures (oS M ((mS M) + 1)) 0 1 2 8).2) ((h_X7_figures (oS M ((mS M) + 1)) 0 1 2 8).1) 2 1 99).1)]) (rest := [.ref b]) ⟨hx, hb, hml, hown, hts⟩ (c_X7_comeOn l G (b + 3) (mR ((h_X7_figures ((h_X7_figures (oS M ((mS M) + 1)) 0 1 2 8).2) ((h_X7_figures (oS M ((mS M) + 1)) 0 1 2 8).1) 2 1 99).2)) ((h_X7_figures (oS M ((mS M) + 1)) 0 1 2 8).1) ((h_X7_figures ((h_X7_figures (oS M ((mS M) + 1)) 0 1 2 8).2) ((h_X7_figures (oS M ((mS M) + 1)) 0 1 2 8).1) 2 1 99).1) (RI.m (by simp only [fig_R, car_R, cel_R, mR_oS]; exact hRI)).1 (gm40 (by simp only [fig_R, car_R, cel_R, mR_oS]; exact hRI) (by assumption)) (fig_len8 (by assumption)) (RI.R3 (by simp only [fig_R, car_R, cel_R, mR_oS]; exact hRI))) (va_cwS 3 hts gX7_readCommand_X7_comeOn rfl rfl rfl (by decide +kernel) ⟨Nat.le_of_ble_eq_true rfl, Nat.le_of_ble_eq_true rfl⟩) (va_P.sub hP [3] rfl) hO rfl hl.1 (Nat.le_of_ble_eq_true rfl) dX7_readCommand_154 ⟨Nat.le_of_ble_eq_true rfl, Nat.le_of_ble_eq_true rfl⟩) hS (fun q h => hA q (by simp only [one, blk] at *; omega)) (fun H locs hP1 hz hk hS => ?_)
        have hP : Md G b (oR ((h_X7_figures ((h_X7_figures (oS M ((mS M) + 1)) 0 1 2 8).2) ((h_X7_figures (oS M ((mS M) + 1)) 0 1 2 8).1) 2 1 99).2) ((h_X7_comeOn (mR ((h_X7_figures ((h_X7_figures (oS M ((mS M) + 1)) 0 1 2 8).2) ((h_X7_figures (oS M ((mS M) + 1)) 0 1 2 8).1) 2 1 99).2)) ((h_X7_figures (oS M ((mS M) + 1)) 0 1 2 8).1) ((h_X7_figures ((h_X7_figures (oS M ((mS M) + 1)) 0 1 2 8).2) ((h_X7_figures (oS M ((mS M) + 1)) 0 1 2 8).1) 2 1 99).1)).2)) H := md_pR (mo_row 3 hP rfl hP1 hk)
        refine lv_if_lt (tgt := 164) hx hb dX7_readCommand_157 (by decide) (fun c_5 => ?_) (fun c_5 => ?_)
        · refine lv_iconst (v := 0) hx hb dX7_readCommand_164 (by decide) ?_
          refine cl_mi (rV (As := [.int 0]) (rest := []) ⟨hx, hb, hml, hown, hts⟩ (c_X7_done l G b (oR ((h_X7_figures ((h_X7_figures (oS M ((mS M) + 1)) 0 1 2 8).2) ((h_X7_figures (oS M ((mS M) + 1)) 0 1 2 8).1) 2 1 99).2) ((h_X7_comeOn (mR ((h_X7_figures ((h_X7_figures (oS M ((mS M) + 1)) 0 1 2 8).2) ((h_X7_figures (oS M ((mS M) + 1)) 0 1 2 8).1) 2 1 99).2)) ((h_X7_figures (oS M ((mS M) + 1)) 0 1 2 8).1) ((h_X7_figures ((h_X7_figures (oS M ((mS M) + 1)) 0 1 2 8).2) ((h_X7_figures (oS M ((mS M) + 1)) 0 1 2 8).1) 2 1 99).1)).2)) 0) (cwV 1 hts gX7_readCommand_X7_done rfl rfl rfl (by decide +kernel) ⟨Nat.le_of_ble_eq_true rfl, Nat.le_of_ble_eq_true rfl⟩) (md_recv hO hP) hP hO rfl hl.1 (Nat.le_of_ble_eq_true rfl) dX7_readCommand_165 ⟨Nat.le_of_ble_eq_true rfl, Nat.le_of_ble_eq_true rfl⟩) hS hA (fun H locs hP1 hz hk hS => ?_)
          have hP : Md G b ((h_X7_done (oR ((h_X7_figures ((h_X7_figures (oS M ((mS M) + 1)) 0 1 2 8).2) ((h_X7_figures (oS M ((mS M) + 1)) 0 1 2 8).1) 2 1 99).2) ((h_X7_comeOn (mR ((h_X7_figures ((h_X7_figures (oS M ((mS M) + 1)) 0 1 2 8).2) ((h_X7_figures (oS M ((mS M) + 1)) 0 1 2 8).1) 2 1 99).2)) ((h_X7_figures (oS M ((mS M) + 1)) 0 1 2 8).1) ((h_X7_figures ((h_X7_figures (oS M ((mS M) + 1)) 0 1 2 8).2) ((h_X7_figures (oS M ((mS M) + 1)) 0 1 2 8).1) 2 1 99).1)).2)) 0).2) H := hP1
          refine lv_if_eq (tgt := 175) hx hb dX7_readCommand_168 (by decide) (fun c_6 => ?_) (fun c_6 => ?_)
          · exact absurd c_6 (done_1 _ _)
          · refine lv_iconst (v := 1) hx hb dX7_readCommand_171 (by decide) ?_
            refine lv_goto (tgt := 176) hx hb dX7_readCommand_172 (by decide) ?_
            have hE : h_X7_readCommand M = (1, (h_X7_done (oR ((h_X7_figures ((h_X7_figures (oS M ((mS M) + 1)) 0 1 2 8).2) ((h_X7_figures (oS M ((mS M) + 1)) 0 1 2 8).1) 2 1 99).2) ((h_X7_comeOn (mR ((h_X7_figures ((h_X7_figures (oS M ((mS M) + 1)) 0 1 2 8).2) ((h_X7_figures (oS M ((mS M) + 1)) 0 1 2 8).1) 2 1 99).2)) ((h_X7_figures (oS M ((mS M) + 1)) 0 1 2 8).1) ((h_X7_figures ((h_X7_figures (oS M ((mS M) + 1)) 0 1 2 8).2) ((h_X7_figures (oS M ((mS M) + 1)) 0 1 2 8).1) 2 1 99).1)).2)) 0).2) := (by rw [h_X7_readCommand, if_pos c_1, if_neg c_2, if_neg c_3, if_pos c_5])
            have hE2 := snd_of hE
            exact W.zret (ty := .boolean) hx hb hr rfl (fun t ht hW => ⟨by rw [fst_of hE], by rw [ht, hE2]; exact hP, hS.F ht⟩) hS.2.2 dX7_readCommand_176
        · refine lv_iconst (v := 1) hx hb dX7_readCommand_160 (by decide) ?_
          refine lv_goto (tgt := 165) hx hb dX7_readCommand_161 (by decide) ?_
          refine cl_mi (rV (As := [.int 1]) (rest := []) ⟨hx, hb, hml, hown, hts⟩ (c_X7_done l G b (oR ((h_X7_figures ((h_X7_figures (oS M ((mS M) + 1)) 0 1 2 8).2) ((h_X7_figures (oS M ((mS M) + 1)) 0 1 2 8).1) 2 1 99).2) ((h_X7_comeOn (mR ((h_X7_figures ((h_X7_figures (oS M ((mS M) + 1)) 0 1 2 8).2) ((h_X7_figures (oS M ((mS M) + 1)) 0 1 2 8).1) 2 1 99).2)) ((h_X7_figures (oS M ((mS M) + 1)) 0 1 2 8).1) ((h_X7_figures ((h_X7_figures (oS M ((mS M) + 1)) 0 1 2 8).2) ((h_X7_figures (oS M ((mS M) + 1)) 0 1 2 8).1) 2 1 99).1)).2)) 1) (cwV 1 hts gX7_readCommand_X7_done rfl rfl rfl (by decide +kernel) ⟨Nat.le_of_ble_eq_true rfl, Nat.le_of_ble_eq_true rfl⟩) (md_recv hO hP) hP hO rfl hl.1 (Nat.le_of_ble_eq_true rfl) dX7_readCommand_165 ⟨Nat.le_of_ble_eq_true rfl, Nat.le_of_ble_eq_true rfl⟩) hS hA (fun H locs hP1 hz hk hS => ?_)
          have hP : Md G b ((h_X7_done (oR ((h_X7_figures ((h_X7_figures (oS M ((mS M) + 1)) 0 1 2 8).2) ((h_X7_figures (oS M ((mS M) + 1)) 0 1 2 8).1) 2 1 99).2) ((h_X7_comeOn (mR ((h_X7_figures ((h_X7_figures (oS M ((mS M) + 1)) 0 1 2 8).2) ((h_X7_figures (oS M ((mS M) + 1)) 0 1 2 8).1) 2 1 99).2)) ((h_X7_figures (oS M ((mS M) + 1)) 0 1 2 8).1) ((h_X7_figures ((h_X7_figures (oS M ((mS M) + 1)) 0 1 2 8).2) ((h_X7_figures (oS M ((mS M) + 1)) 0 1 2 8).1) 2 1 99).1)).2)) 1).2) H := hP1
          refine lv_if_eq (tgt := 175) hx hb dX7_readCommand_168 (by decide) (fun c_7 => ?_) (fun c_7 => ?_)
          · exact absurd c_7 (done_1 _ _)
          · refine lv_iconst (v := 1) hx hb dX7_readCommand_171 (by decide) ?_
            refine lv_goto (tgt := 176) hx hb dX7_readCommand_172 (by decide) ?_
            have hE : h_X7_readCommand M = (1, (h_X7_done (oR ((h_X7_figures ((h_X7_figures (oS M ((mS M) + 1)) 0 1 2 8).2) ((h_X7_figures (oS M ((mS M) + 1)) 0 1 2 8).1) 2 1 99).2) ((h_X7_comeOn (mR ((h_X7_figures ((h_X7_figures (oS M ((mS M) + 1)) 0 1 2 8).2) ((h_X7_figures (oS M ((mS M) + 1)) 0 1 2 8).1) 2 1 99).2)) ((h_X7_figures (oS M ((mS M) + 1)) 0 1 2 8).1) ((h_X7_figures ((h_X7_figures (oS M ((mS M) + 1)) 0 1 2 8).2) ((h_X7_figures (oS M ((mS M) + 1)) 0 1 2 8).1) 2 1 99).1)).2)) 1).2) := (by rw [h_X7_readCommand, if_pos c_1, if_neg c_2, if_neg c_3, if_neg c_5])
            have hE2 := snd_of hE
            exact W.zret (ty := .boolean) hx hb hr rfl (fun t ht hW => ⟨by rw [fst_of hE], by rw [ht, hE2]; exact hP, hS.F ht⟩) hS.2.2 dX7_readCommand_176
  by_cases c_8 : ((mT M) (mS M).toNatClampNeg) = 104
  · refine lv_tableIn (off := 87) (tgt := 108) hx hb dX7_readCommand_21 (by rw [c_8]; decide) (by rw [c_8]; decide) (by rw [c_8]; decide +kernel) (by decide) ?_
    refine lv_aload_n hx hb dX7_readCommand_108 rfl (lv_at hl 1 rfl) ?_
    refine lv_aload_n hx hb dX7_readCommand_109 rfl (lv_at hl 2 rfl) ?_
    refine cl_mi (rV (As := [.ref (b + 3)]) (rest := []) ⟨hx, hb, hml, hown, hts⟩ (c_X7_readHydrant l G b (oS M ((mS M) + 1)) (by first | exact hTI | exact (hTI.up hsz).1 | (repeat (first | with_reducible exact (hTI.up hsz).1 | with_reducible apply fig_TI | with_reducible apply car_TI | with_reducible apply cel_TI))) (by simp only [fig_R, car_R, cel_R, mR_oS]; exact hRI)) (cwV 1 hts gX7_readCommand_X7_readHydrant rfl rfl rfl (by decide +kernel) ⟨Nat.le_of_ble_eq_true rfl, Nat.le_of_ble_eq_true rfl⟩) (md_recv hO hP) hP hO rfl hl.1 (Nat.le_of_ble_eq_true rfl) dX7_readCommand_110 ⟨Nat.le_of_ble_eq_true rfl, Nat.le_of_ble_eq_true rfl⟩) hS hA (fun H locs hP1 hz hk hS => ?_)
    have hP : Md G b ((h_X7_readHydrant (oS M ((mS M) + 1))).2) H := hP1
    have hE : h_X7_readCommand M = ((h_X7_readHydrant (oS M ((mS M) + 1))).1, (h_X7_readHydrant (oS M ((mS M) + 1))).2) := (by rw [h_X7_readCommand, if_neg c_1, if_pos c_8])
    have hE2 := snd_of hE
    exact W.zret (ty := .boolean) hx hb hr (nar_b (b_h_X7_readHydrant ..)) (fun t ht hW => ⟨by rw [fst_of hE], by rw [ht, hE2]; exact hP, hS.F ht⟩) hS.2.2 dX7_readCommand_113
  by_cases c_9 : ((mT M) (mS M).toNatClampNeg) = 108
  · refine lv_tableIn (off := 156) (tgt := 177) hx hb dX7_readCommand_21 (by rw [c_9]; decide) (by rw [c_9]; decide) (by rw [c_9]; decide +kernel) (by decide) ?_
    refine lv_aload_n hx hb dX7_readCommand_177 rfl (lv_at hl 1 rfl) ?_
    refine cl_mi (rV (As := []) (rest := []) ⟨hx, hb, hml, hown, hts⟩ (c_X7_carSign l G b (oS M ((mS M) + 1)) (by first | exact hTI | exact (hTI.up hsz).1 | (repeat (first | with_reducible exact (hTI.up hsz).1 | with_reducible apply fig_TI | with_reducible apply car_TI | with_reducible apply cel_TI)))) (cwV 0 hts gX7_readCommand_X7_carSign rfl rfl rfl (by decide +kernel) ⟨Nat.le_of_ble_eq_true rfl, Nat.le_of_ble_eq_true rfl⟩) (md_recv hO hP) hP hO rfl hl.1 (Nat.le_of_ble_eq_true rfl) dX7_readCommand_178 ⟨Nat.le_of_ble_eq_true rfl, Nat.le_of_ble_eq_true rfl⟩) hS hA (fun H locs hP1 hz hk hS => ?_)
    have hP : Md G b ((h_X7_carSign (oS M ((mS M) + 1))).2) H := hP1
    refine lv_istore_n (lv' := [(3, .int ((h_X7_carSign (oS M ((mS M) + 1))).1)), (2, .int ((mT M) (mS M).toNatClampNeg)), (0, .ref b), (1, .ref (b + 3))]) hx hb dX7_readCommand_181 rfl hl (by decide) rfl (fun ls hl => ?_)
    refine lv_iload_n hx hb dX7_readCommand_182 rfl (lv_at hl 0 rfl) ?_
    refine lv_iconst (v := -1) hx hb dX7_readCommand_183 (by decide) ?_
    refine lv_icmp_eq (tgt := 230) hx hb dX7_readCommand_184 (by decide) (fun c_10 => ?_) (fun c_10 => ?_)
    · refine lv_iconst (v := 0) hx hb dX7_readCommand_230 (by decide) ?_
      have hE : h_X7_readCommand M = (0, (h_X7_carSign (oS M ((mS M) + 1))).2) := (by rw [h_X7_readCommand, if_neg c_1, if_neg c_8, if_pos c_9, if_pos c_10])
      have hE2 := snd_of hE
      exact W.zret (ty := .boolean) hx hb hr rfl (fun t ht hW => ⟨by rw [fst_of hE], by rw [ht, hE2]; exact hP, hS.F ht⟩) hS.2.2 dX7_readCommand_231
    · refine lv_aload_n hx hb dX7_readCommand_187 rfl (lv_at hl 2 rfl) ?_
      refine lv_aload_n hx hb dX7_readCommand_188 rfl (lv_at hl 3 rfl) ?_
      refine lv_iload_n hx hb dX7_readCommand_189 rfl (lv_at hl 0 rfl) ?_
      refine cl_pi (rS (As := [.ref (b + 3), .int ((h_X7_carSign (oS M ((mS M) + 1))).1)]) (rest := [.ref b]) ⟨hx, hb, hml, hown, hts⟩ (c_X7_isParked l G (b + 3) (mR ((h_X7_carSign (oS M ((mS M) + 1))).2)) ((h_X7_carSign (oS M ((mS M) + 1))).1) (RI.M (by simp only [fig_R, car_R, cel_R, mR_oS]; exact hRI))) (va_cwS 2 hts gX7_readCommand_X7_isParked rfl rfl rfl (by decide +kernel) ⟨Nat.le_of_ble_eq_true rfl, Nat.le_of_ble_eq_true rfl⟩) (va_P.sub hP [3] rfl) hO rfl hl.1 (Nat.le_of_ble_eq_true rfl) dX7_readCommand_190 ⟨Nat.le_of_ble_eq_true rfl, Nat.le_of_ble_eq_true rfl⟩) ?_
      refine lv_if_eq (tgt := 219) hx hb dX7_readCommand_193 (by decide) (fun c_11 => ?_) (fun c_11 => ?_)
      · refine lv_iconst (v := 0) hx hb dX7_readCommand_219 (by decide) ?_
        refine cl_mi (rV (As := [.int 0]) (rest := []) ⟨hx, hb, hml, hown, hts⟩ (c_X7_done l G b ((h_X7_carSign (oS M ((mS M) + 1))).2) 0) (cwV 1 hts gX7_readCommand_X7_done rfl rfl rfl (by decide +kernel) ⟨Nat.le_of_ble_eq_true rfl, Nat.le_of_ble_eq_true rfl⟩) (md_recv hO hP) hP hO rfl hl.1 (Nat.le_of_ble_eq_true rfl) dX7_readCommand_220 ⟨Nat.le_of_ble_eq_true rfl, Nat.le_of_ble_eq_true rfl⟩) hS hA (fun H locs hP1 hz hk hS => ?_)
        have hP : Md G b ((h_X7_done ((h_X7_carSign (oS M ((mS M) + 1))).2) 0).2) H := hP1
        refine lv_if_eq (tgt := 230) hx hb dX7_readCommand_223 (by decide) (fun c_12 => ?_) (fun c_12 => ?_)
        · exact absurd c_12 (done_1 _ _)
        · refine lv_iconst (v := 1) hx hb dX7_readCommand_226 (by decide) ?_
          refine lv_goto (tgt := 231) hx hb dX7_readCommand_227 (by decide) ?_
          have hE : h_X7_readCommand M = (1, (h_X7_done ((h_X7_carSign (oS M ((mS M) + 1))).2) 0).2) := (by rw [h_X7_readCommand, if_neg c_1, if_neg c_8, if_pos c_9, if_neg c_10, if_pos c_11])
          have hE2 := snd_of hE
          exact W.zret (ty := .boolean) hx hb hr rfl (fun t ht hW => ⟨by rw [fst_of hE], by rw [ht, hE2]; exact hP, hS.F ht⟩) hS.2.2 dX7_readCommand_231
      · refine lv_aload_n hx hb dX7_readCommand_196 rfl (lv_at hl 3 rfl) ?_
        refine lv_iload_n hx hb dX7_readCommand_197 rfl (lv_at hl 0 rfl) ?_
        refine lv_iload_n hx hb dX7_readCommand_198 rfl (lv_at hl 1 rfl) ?_
        refine lv_bipush (v := 108) hx hb dX7_readCommand_199 (by decide) ?_
        refine lv_icmp_ne (tgt := 208) hx hb dX7_readCommand_201 (by decide) (fun c_13 => ?_) (fun c_13 => ?_)
        · exact absurd c_9 c_13
        · refine lv_iconst (v := 2) hx hb dX7_readCommand_204 (by decide) ?_
          refine lv_goto (tgt := 209) hx hb dX7_readCommand_205 (by decide) ?_
          refine cl_mi (rS (As := [.ref (b + 3), .int ((h_X7_carSign (oS M ((mS M) + 1))).1), .int 2]) (rest := [.ref b]) ⟨hx, hb, hml, hown, hts⟩ (c_X7_goes_raw l G (b + 3) (mR ((h_X7_carSign (oS M ((mS M) + 1))).2)) ((h_X7_carSign (oS M ((mS M) + 1))).1) 2 (by simp only [fig_R, car_R, cel_R, mR_oS]; exact hRI) (by assumption)) (va_cwS 3 hts gX7_readCommand_X7_goes rfl rfl rfl (by decide +kernel) ⟨Nat.le_of_ble_eq_true rfl, Nat.le_of_ble_eq_true rfl⟩) (va_P.sub hP [3] rfl) hO rfl hl.1 (Nat.le_of_ble_eq_true rfl) dX7_readCommand_209 ⟨Nat.le_of_ble_eq_true rfl, Nat.le_of_ble_eq_true rfl⟩) hS (fun q h => hA q (by simp only [one, blk] at *; omega)) (fun H locs hP1 hz hk hS => ?_)
          have hP : Md G b (oR ((h_X7_carSign (oS M ((mS M) + 1))).2) ((h_X7_goes (mR ((h_X7_carSign (oS M ((mS M) + 1))).2)) (((h_X7_carSign (oS M ((mS M) + 1))).1).toNatClampNeg) 2).2)) H := md_pR (mo_row 3 hP rfl hP1 hk)
          refine lv_if_lt (tgt := 219) hx hb dX7_readCommand_212 (by decide) (fun c_14 => ?_) (fun c_14 => ?_)
          · refine lv_iconst (v := 0) hx hb dX7_readCommand_219 (by decide) ?_
            refine cl_mi (rV (As := [.int 0]) (rest := []) ⟨hx, hb, hml, hown, hts⟩ (c_X7_done l G b (oR ((h_X7_carSign (oS M ((mS M) + 1))).2) ((h_X7_goes (mR ((h_X7_carSign (oS M ((mS M) + 1))).2)) (((h_X7_carSign (oS M ((mS M) + 1))).1).toNatClampNeg) 2).2)) 0) (cwV 1 hts gX7_readCommand_X7_done rfl rfl rfl (by decide +kernel) ⟨Nat.le_of_ble_eq_true rfl, Nat.le_of_ble_eq_true rfl⟩) (md_recv hO hP) hP hO rfl hl.1 (Nat.le_of_ble_eq_true rfl) dX7_readCommand_220 ⟨Nat.le_of_ble_eq_true rfl, Nat.le_of_ble_eq_true rfl⟩) hS hA (fun H locs hP1 hz hk hS => ?_)
            have hP : Md G b ((h_X7_done (oR ((h_X7_carSign (oS M ((mS M) + 1))).2) ((h_X7_goes (mR ((h_X7_carSign (oS M ((mS M) + 1))).2)) (((h_X7_carSign (oS M ((mS M) + 1))).1).toNatClampNeg) 2).2)) 0).2) H := hP1
            refine lv_if_eq (tgt := 230) hx hb dX7_readCommand_223 (by decide) (fun c_15 => ?_) (fun c_15 => ?_)
            · exact absurd c_15 (done_1 _ _)
            · refine lv_iconst (v := 1) hx hb dX7_readCommand_226 (by decide) ?_
              refine lv_goto (tgt := 231) hx hb dX7_readCommand_227 (by decide) ?_
              have hE : h_X7_readCommand M = (1, (h_X7_done (oR ((h_X7_carSign (oS M ((mS M) + 1))).2) ((h_X7_goes (mR ((h_X7_carSign (oS M ((mS M) + 1))).2)) (((h_X7_carSign (oS M ((mS M) + 1))).1).toNatClampNeg) 2).2)) 0).2) := (by rw [h_X7_readCommand, if_neg c_1, if_neg c_8, if_pos c_9, if_neg c_10, if_neg c_11, if_pos c_14])
              have hE2 := snd_of hE
              exact W.zret (ty := .boolean) hx hb hr rfl (fun t ht hW => ⟨by rw [fst_of hE], by rw [ht, hE2]; exact hP, hS.F ht⟩) hS.2.2 dX7_readCommand_231
          · refine lv_iconst (v := 1) hx hb dX7_readCommand_215 (by decide) ?_
            refine lv_goto (tgt := 220) hx hb dX7_readCommand_216 (by decide) ?_
            refine cl_mi (rV (As := [.int 1]) (rest := []) ⟨hx, hb, hml, hown, hts⟩ (c_X7_done l G b (oR ((h_X7_carSign (oS M ((mS M) + 1))).2) ((h_X7_goes (mR ((h_X7_carSign (oS M ((mS M) + 1))).2)) (((h_X7_carSign (oS M ((mS M) + 1))).1).toNatClampNeg) 2).2)) 1) (cwV 1 hts gX7_readCommand_X7_done rfl rfl rfl (by decide +kernel) ⟨Nat.le_of_ble_eq_true rfl, Nat.le_of_ble_eq_true rfl⟩) (md_recv hO hP) hP hO rfl hl.1 (Nat.le_of_ble_eq_true rfl) dX7_readCommand_220 ⟨Nat.le_of_ble_eq_true rfl, Nat.le_of_ble_eq_true rfl⟩) hS hA (fun H locs hP1 hz hk hS => ?_)
            have hP : Md G b ((h_X7_done (oR ((h_X7_carSign (oS M ((mS M) + 1))).2) ((h_X7_goes (mR ((h_X7_carSign (oS M ((mS M) + 1))).2)) (((h_X7_carSign (oS M ((mS M) + 1))).1).toNatClampNeg) 2).2)) 1).2) H := hP1
            refine lv_if_eq (tgt := 230) hx hb dX7_readCommand_223 (by decide) (fun c_16 => ?_) (fun c_16 => ?_)
            · exact absurd c_16 (done_1 _ _)
            · refine lv_iconst (v := 1) hx hb dX7_readCommand_226 (by decide) ?_
              refine lv_goto (tgt := 231) hx hb dX7_readCommand_227 (by decide) ?_
              have hE : h_X7_readCommand M = (1, (h_X7_done (oR ((h_X7_carSign (oS M ((mS M) + 1))).2) ((h_X7_goes (mR ((h_X7_carSign (oS M ((mS M) + 1))).2)) (((h_X7_carSign (oS M ((mS M) + 1))).1).toNatClampNeg) 2).2)) 1).2) := (by rw [h_X7_readCommand, if_neg c_1, if_neg c_8, if_pos c_9, if_neg c_10, if_neg c_11, if_neg c_14])
              have hE2 := snd_of hE
              exact W.zret (ty := .boolean) hx hb hr rfl (fun t ht hW => ⟨by rw [fst_of hE], by rw [ht, hE2]; exact hP, hS.F ht⟩) hS.2.2 dX7_readCommand_231
  by_cases c_17 : ((mT M) (mS M).toNatClampNeg) = 109
  · refine lv_tableIn (off := 211) (tgt := 232) hx hb dX7_readCommand_21 (by rw [c_17]; decide) (by rw [c_17]; decide) (by rw [c_17]; decide +kernel) (by decide) ?_
    refine lv_aload_n hx hb dX7_readCommand_232 rfl (lv_at hl 1 rfl) ?_
    refine cl_mi (rV (As := []) (rest := []) ⟨hx, hb, hml, hown, hts⟩ (c_X7_carSign l G b (oS M ((mS M) + 1)) (by first | exact hTI | exact (hTI.up hsz).1 | (repeat (first | with_reducible exact (hTI.up hsz).1 | with_reducible apply fig_TI | with_reducible apply car_TI | with_reducible apply cel_TI)))) (cwV 0 hts gX7_readCommand_X7_carSign rfl rfl rfl (by decide +kernel) ⟨Nat.le_of_ble_eq_true rfl, Nat.le_of_ble_eq_true rfl⟩) (md_recv hO hP) hP hO rfl hl.1 (Nat.le_of_ble_eq_true rfl) dX7_readCommand_233 ⟨Nat.le_of_ble_eq_true rfl, Nat.le_of_ble_eq_true rfl⟩) hS hA (fun H locs hP1 hz hk hS => ?_)
    have hP : Md G b ((h_X7_carSign (oS M ((mS M) + 1))).2) H := hP1
    refine lv_istore_n (lv' := [(3, .int ((h_X7_carSign (oS M ((mS M) + 1))).1)), (2, .int ((mT M) (mS M).toNatClampNeg)), (0, .ref b), (1, .ref (b + 3))]) hx hb dX7_readCommand_236 rfl hl (by decide) rfl (fun ls hl => ?_)
    refine lv_aload_n hx hb dX7_readCommand_237 rfl (lv_at hl 2 rfl) ?_
    refine lv_iload_n hx hb dX7_readCommand_238 rfl (lv_at hl 0 rfl) ?_
    refine cl_mi (rV (As := [.int ((h_X7_carSign (oS M ((mS M) + 1))).1)]) (rest := []) ⟨hx, hb, hml, hown, hts⟩ (c_X7_cellSign l G b ((h_X7_carSign (oS M ((mS M) + 1))).2) ((h_X7_carSign (oS M ((mS M) + 1))).1) (by first | exact hTI | exact (hTI.up hsz).1 | (repeat (first | with_reducible exact (hTI.up hsz).1 | with_reducible apply fig_TI | with_reducible apply car_TI | with_reducible apply cel_TI)))) (cwV 1 hts gX7_readCommand_X7_cellSign rfl rfl rfl (by decide +kernel) ⟨Nat.le_of_ble_eq_true rfl, Nat.le_of_ble_eq_true rfl⟩) (md_recv hO hP) hP hO rfl hl.1 (Nat.le_of_ble_eq_true rfl) dX7_readCommand_239 ⟨Nat.le_of_ble_eq_true rfl, Nat.le_of_ble_eq_true rfl⟩) hS hA (fun H locs hP1 hz hk hS => ?_)
    have hP : Md G b ((h_X7_cellSign ((h_X7_carSign (oS M ((mS M) + 1))).2) ((h_X7_carSign (oS M ((mS M) + 1))).1)).2) H := hP1
    refine lv_istore (lv' := [(4, .int ((h_X7_cellSign ((h_X7_carSign (oS M ((mS M) + 1))).2) ((h_X7_carSign (oS M ((mS M) + 1))).1)).1)), (3, .int ((h_X7_carSign (oS M ((mS M) + 1))).1)), (2, .int ((mT M) (mS M).toNatClampNeg)), (0, .ref b), (1, .ref (b + 3))]) hx hb dX7_readCommand_242 hl (by decide) rfl (fun ls hl => ?_)
    refine lv_iload hx hb dX7_readCommand_244 (lv_at hl 0 rfl) ?_
    refine lv_iconst (v := -1) hx hb dX7_readCommand_246 (by decide) ?_
    refine lv_icmp_eq (tgt := 294) hx hb dX7_readCommand_247 (by decide) (fun c_18 => ?_) (fun c_18 => ?_)
    · refine lv_iconst (v := 0) hx hb dX7_readCommand_294 (by decide) ?_
      have hE : h_X7_readCommand M = (0, (h_X7_cellSign ((h_X7_carSign (oS M ((mS M) + 1))).2) ((h_X7_carSign (oS M ((mS M) + 1))).1)).2) := (by rw [h_X7_readCommand, if_neg c_1, if_neg c_8, if_neg c_9, if_pos c_17, if_pos c_18])
      have hE2 := snd_of hE
      exact W.zret (ty := .boolean) hx hb hr rfl (fun t ht hW => ⟨by rw [fst_of hE], by rw [ht, hE2]; exact hP, hS.F ht⟩) hS.2.2 dX7_readCommand_295
    · refine lv_aload_n hx hb dX7_readCommand_250 rfl (lv_at hl 3 rfl) ?_
      refine lv_aload_n hx hb dX7_readCommand_251 rfl (lv_at hl 4 rfl) ?_
      refine lv_iload_n hx hb dX7_readCommand_252 rfl (lv_at hl 1 rfl) ?_
      refine cl_pi (rS (As := [.ref (b + 3), .int ((h_X7_carSign (oS M ((mS M) + 1))).1)]) (rest := [.ref b]) ⟨hx, hb, hml, hown, hts⟩ (c_X7_isCar l G (b + 3) (mR ((h_X7_cellSign ((h_X7_carSign (oS M ((mS M) + 1))).2) ((h_X7_carSign (oS M ((mS M) + 1))).1)).2)) ((h_X7_carSign (oS M ((mS M) + 1))).1)) (va_cwS 2 hts gX7_readCommand_X7_isCar rfl rfl rfl (by decide +kernel) ⟨Nat.le_of_ble_eq_true rfl, Nat.le_of_ble_eq_true rfl⟩) (va_P.sub hP [3] rfl) hO rfl hl.1 (Nat.le_of_ble_eq_true rfl) dX7_readCommand_253 ⟨Nat.le_of_ble_eq_true rfl, Nat.le_of_ble_eq_true rfl⟩) ?_
      refine lv_if_eq (tgt := 283) hx hb dX7_readCommand_256 (by decide) (fun c_19 => ?_) (fun c_19 => ?_)
      · refine lv_iconst (v := 0) hx hb dX7_readCommand_283 (by decide) ?_
        refine cl_mi (rV (As := [.int 0]) (rest := []) ⟨hx, hb, hml, hown, hts⟩ (c_X7_done l G b ((h_X7_cellSign ((h_X7_carSign (oS M ((mS M) + 1))).2) ((h_X7_carSign (oS M ((mS M) + 1))).1)).2) 0) (cwV 1 hts gX7_readCommand_X7_done rfl rfl rfl (by decide +kernel) ⟨Nat.le_of_ble_eq_true rfl, Nat.le_of_ble_eq_true rfl⟩) (md_recv hO hP) hP hO rfl hl.1 (Nat.le_of_ble_eq_true rfl) dX7_readCommand_284 ⟨Nat.le_of_ble_eq_true rfl, Nat.le_of_ble_eq_true rfl⟩) hS hA (fun H locs hP1 hz hk hS => ?_)
        have hP : Md G b ((h_X7_done ((h_X7_cellSign ((h_X7_carSign (oS M ((mS M) + 1))).2) ((h_X7_carSign (oS M ((mS M) + 1))).1)).2) 0).2) H := hP1
        refine lv_if_eq (tgt := 294) hx hb dX7_readCommand_287 (by decide) (fun c_20 => ?_) (fun c_20 => ?_)
        · exact absurd c_20 (done_1 _ _)
        · refine lv_iconst (v := 1) hx hb dX7_readCommand_290 (by decide) ?_
          refine lv_goto (tgt := 295) hx hb dX7_readCommand_291 (by decide) ?_
          have hE : h_X7_readCommand M = (1, (h_X7_done ((h_X7_cellSign ((h_X7_carSign (oS M ((mS M) + 1))).2) ((h_X7_carSign (oS M ((mS M) + 1))).1)).2) 0).2) := (by rw [h_X7_readCommand, if_neg c_1, if_neg c_8, if_neg c_9, if_pos c_17, if_neg c_18, if_pos c_19])
          have hE2 := snd_of hE
          exact W.zret (ty := .boolean) hx hb hr rfl (fun t ht hW => ⟨by rw [fst_of hE], by rw [ht, hE2]; exact hP, hS.F ht⟩) hS.2.2 dX7_readCommand_295
      · refine lv_aload_n hx hb dX7_readCommand_259 rfl (lv_at hl 4 rfl) ?_
        refine lv_iload_n hx hb dX7_readCommand_260 rfl (lv_at hl 1 rfl) ?_
        refine lv_iload hx hb dX7_readCommand_261 (lv_at hl 0 rfl) ?_
        refine cl_pi (rS (As := [.ref (b + 3), .int ((h_X7_carSign (oS M ((mS M) + 1))).1), .int ((h_X7_cellSign ((h_X7_carSign (oS M ((mS M) + 1))).2) ((h_X7_carSign (oS M ((mS M) + 1))).1)).1)]) (rest := [.ref b]) ⟨hx, hb, hml, hown, hts⟩ (c_X7_canMove_raw l G (b + 3) (mR ((h_X7_cellSign ((h_X7_carSign (oS M ((mS M) + 1))).2) ((h_X7_carSign (oS M ((mS M) + 1))).1)).2)) ((h_X7_carSign (oS M ((mS M) + 1))).1) ((h_X7_cellSign ((h_X7_carSign (oS M ((mS M) + 1))).2) ((h_X7_carSign (oS M ((mS M) + 1))).1)).1) (by simp only [fig_R, car_R, cel_R, mR_oS]; exact hRI) (car_40x (by assumption) (by simp only [fig_R, car_R, cel_R, mR_oS]; exact hRI)) (cel_n (by assumption))) (va_cwS 3 hts gX7_readCommand_X7_canMove rfl rfl rfl (by decide +kernel) ⟨Nat.le_of_ble_eq_true rfl, Nat.le_of_ble_eq_true rfl⟩) (va_P.sub hP [3] rfl) hO rfl hl.1 (Nat.le_of_ble_eq_true rfl) dX7_readCommand_263 ⟨Nat.le_of_ble_eq_true rfl, Nat.le_of_ble_eq_true rfl⟩) ?_
        refine lv_if_eq (tgt := 283) hx hb dX7_readCommand_266 (by decide) (fun c_21 => ?_) (fun c_21 => ?_)
        · refine lv_iconst (v := 0) hx hb dX7_readCommand_283 (by decide) ?_
          refine cl_mi (rV (As := [.int 0]) (rest := []) ⟨hx, hb, hml, hown, hts⟩ (c_X7_done l G b ((h_X7_cellSign ((h_X7_carSign (oS M ((mS M) + 1))).2) ((h_X7_carSign (oS M ((mS M) + 1))).1)).2) 0) (cwV 1 hts gX7_readCommand_X7_done rfl rfl rfl (by decide +kernel) ⟨Nat.le_of_ble_eq_true rfl, Nat.le_of_ble_eq_true rfl⟩) (md_recv hO hP) hP hO rfl hl.1 (Nat.le_of_ble_eq_true rfl) dX7_readCommand_284 ⟨Nat.le_of_ble_eq_true rfl, Nat.le_of_ble_eq_true rfl⟩) hS hA (fun H locs hP1 hz hk hS => ?_)
          have hP : Md G b ((h_X7_done ((h_X7_cellSign ((h_X7_carSign (oS M ((mS M) + 1))).2) ((h_X7_carSign (oS M ((mS M) + 1))).1)).2) 0).2) H := hP1
          refine lv_if_eq (tgt := 294) hx hb dX7_readCommand_287 (by decide) (fun c_22 => ?_) (fun c_22 => ?_)
          · exact absurd c_22 (done_1 _ _)
          · refine lv_iconst (v := 1) hx hb dX7_readCommand_290 (by decide) ?_
            refine lv_goto (tgt := 295) hx hb dX7_readCommand_291 (by decide) ?_
            have hE : h_X7_readCommand M = (1, (h_X7_done ((h_X7_cellSign ((h_X7_carSign (oS M ((mS M) + 1))).2) ((h_X7_carSign (oS M ((mS M) + 1))).1)).2) 0).2) := (by rw [h_X7_readCommand, if_neg c_1, if_neg c_8, if_neg c_9, if_pos c_17, if_neg c_18, if_neg c_19, if_pos c_21])
            have hE2 := snd_of hE
            exact W.zret (ty := .boolean) hx hb hr rfl (fun t ht hW => ⟨by rw [fst_of hE], by rw [ht, hE2]; exact hP, hS.F ht⟩) hS.2.2 dX7_readCommand_295
        · refine lv_aload_n hx hb dX7_readCommand_269 rfl (lv_at hl 4 rfl) ?_
          refine lv_iload_n hx hb dX7_readCommand_270 rfl (lv_at hl 1 rfl) ?_
          refine lv_iload hx hb dX7_readCommand_271 (lv_at hl 0 rfl) ?_
          refine cl_mi (rS (As := [.ref (b + 3), .int ((h_X7_carSign (oS M ((mS M) + 1))).1), .int ((h_X7_cellSign ((h_X7_carSign (oS M ((mS M) + 1))).2) ((h_X7_carSign (oS M ((mS M) + 1))).1)).1)]) (rest := [.ref b]) ⟨hx, hb, hml, hown, hts⟩ (c_X7_moveOn_raw l G (b + 3) (mR ((h_X7_cellSign ((h_X7_carSign (oS M ((mS M) + 1))).2) ((h_X7_carSign (oS M ((mS M) + 1))).1)).2)) ((h_X7_carSign (oS M ((mS M) + 1))).1) ((h_X7_cellSign ((h_X7_carSign (oS M ((mS M) + 1))).2) ((h_X7_carSign (oS M ((mS M) + 1))).1)).1) (by simp only [fig_R, car_R, cel_R, mR_oS]; exact hRI) (car_40x (by assumption) (by simp only [fig_R, car_R, cel_R, mR_oS]; exact hRI)) (cel_n (by assumption)) (by assumption)) (va_cwS 3 hts gX7_readCommand_X7_moveOn rfl rfl rfl (by decide +kernel) ⟨Nat.le_of_ble_eq_true rfl, Nat.le_of_ble_eq_true rfl⟩) (va_P.sub hP [3] rfl) hO rfl hl.1 (Nat.le_of_ble_eq_true rfl) dX7_readCommand_273 ⟨Nat.le_of_ble_eq_true rfl, Nat.le_of_ble_eq_true rfl⟩) hS (fun q h => hA q (by simp only [one, blk] at *; omega)) (fun H locs hP1 hz hk hS => ?_)
          have hP : Md G b (oR ((h_X7_cellSign ((h_X7_carSign (oS M ((mS M) + 1))).2) ((h_X7_carSign (oS M ((mS M) + 1))).1)).2) ((h_X7_moveOn (mR ((h_X7_cellSign ((h_X7_carSign (oS M ((mS M) + 1))).2) ((h_X7_carSign (oS M ((mS M) + 1))).1)).2)) (((h_X7_carSign (oS M ((mS M) + 1))).1).toNatClampNeg) (((h_X7_cellSign ((h_X7_carSign (oS M ((mS M) + 1))).2) ((h_X7_carSign (oS M ((mS M) + 1))).1)).1).toNatClampNeg)).2)) H := md_pR (mo_row 3 hP rfl hP1 hk)
          refine lv_if_lt (tgt := 283) hx hb dX7_readCommand_276 (by decide) (fun c_23 => ?_) (fun c_23 => ?_)
          · refine lv_iconst (v := 0) hx hb dX7_readCommand_283 (by decide) ?_
            refine cl_mi (rV (As := [.int 0]) (rest := []) ⟨hx, hb, hml, hown, hts⟩ (c_X7_done l G b (oR ((h_X7_cellSign ((h_X7_carSign (oS M ((mS M) + 1))).2) ((h_X7_carSign (oS M ((mS M) + 1))).1)).2) ((h_X7_moveOn (mR ((h_X7_cellSign ((h_X7_carSign (oS M ((mS M) + 1))).2) ((h_X7_carSign (oS M ((mS M) + 1))).1)).2)) (((h_X7_carSign (oS M ((mS M) + 1))).1).toNatClampNeg) (((h_X7_cellSign ((h_X7_carSign (oS M ((mS M) + 1))).2) ((h_X7_carSign (oS M ((mS M) + 1))).1)).1).toNatClampNeg)).2)) 0) (cwV 1 hts gX7_readCommand_X7_done rfl rfl rfl (by decide +kernel) ⟨Nat.le_of_ble_eq_true rfl, Nat.le_of_ble_eq_true rfl⟩) (md_recv hO hP) hP hO rfl hl.1 (Nat.le_of_ble_eq_true rfl) dX7_readCommand_284 ⟨Nat.le_of_ble_eq_true rfl, Nat.le_of_ble_eq_true rfl⟩) hS hA (fun H locs hP1 hz hk hS => ?_)
            have hP : Md G b ((h_X7_done (oR ((h_X7_cellSign ((h_X7_carSign (oS M ((mS M) + 1))).2) ((h_X7_carSign (oS M ((mS M) + 1))).1)).2) ((h_X7_moveOn (mR ((h_X7_cellSign ((h_X7_carSign (oS M ((mS M) + 1))).2) ((h_X7_carSign (oS M ((mS M) + 1))).1)).2)) (((h_X7_carSign (oS M ((mS M) + 1))).1).toNatClampNeg) (((h_X7_cellSign ((h_X7_carSign (oS M ((mS M) + 1))).2) ((h_X7_carSign (oS M ((mS M) + 1))).1)).1).toNatClampNeg)).2)) 0).2) H := hP1
            refine lv_if_eq (tgt := 294) hx hb dX7_readCommand_287 (by decide) (fun c_24 => ?_) (fun c_24 => ?_)
            · exact absurd c_24 (done_1 _ _)
            · refine lv_iconst (v := 1) hx hb dX7_readCommand_290 (by decide) ?_
              refine lv_goto (tgt := 295) hx hb dX7_readCommand_291 (by decide) ?_
              have hE : h_X7_readCommand M = (1, (h_X7_done (oR ((h_X7_cellSign ((h_X7_carSign (oS M ((mS M) + 1))).2) ((h_X7_carSign (oS M ((mS M) + 1))).1)).2) ((h_X7_moveOn (mR ((h_X7_cellSign ((h_X7_carSign (oS M ((mS M) + 1))).2) ((h_X7_carSign (oS M ((mS M) + 1))).1)).2)) (((h_X7_carSign (oS M ((mS M) + 1))).1).toNatClampNeg) (((h_X7_cellSign ((h_X7_carSign (oS M ((mS M) + 1))).2) ((h_X7_carSign (oS M ((mS M) + 1))).1)).1).toNatClampNeg)).2)) 0).2) := (by rw [h_X7_readCommand, if_neg c_1, if_neg c_8, if_neg c_9, if_pos c_17, if_neg c_18, if_neg c_19, if_neg c_21, if_pos c_23])
              have hE2 := snd_of hE
              exact W.zret (ty := .boolean) hx hb hr rfl (fun t ht hW => ⟨by rw [fst_of hE], by rw [ht, hE2]; exact hP, hS.F ht⟩) hS.2.2 dX7_readCommand_295
          · refine lv_iconst (v := 1) hx hb dX7_readCommand_279 (by decide) ?_
            refine lv_goto (tgt := 284) hx hb dX7_readCommand_280 (by decide) ?_
            refine cl_mi (rV (As := [.int 1]) (rest := []) ⟨hx, hb, hml, hown, hts⟩ (c_X7_done l G b (oR ((h_X7_cellSign ((h_X7_carSign (oS M ((mS M) + 1))).2) ((h_X7_carSign (oS M ((mS M) + 1))).1)).2) ((h_X7_moveOn (mR ((h_X7_cellSign ((h_X7_carSign (oS M ((mS M) + 1))).2) ((h_X7_carSign (oS M ((mS M) + 1))).1)).2)) (((h_X7_carSign (oS M ((mS M) + 1))).1).toNatClampNeg) (((h_X7_cellSign ((h_X7_carSign (oS M ((mS M) + 1))).2) ((h_X7_carSign (oS M ((mS M) + 1))).1)).1).toNatClampNeg)).2)) 1) (cwV 1 hts gX7_readCommand_X7_done rfl rfl rfl (by decide +kernel) ⟨Nat.le_of_ble_eq_true rfl, Nat.le_of_ble_eq_true rfl⟩) (md_recv hO hP) hP hO rfl hl.1 (Nat.le_of_ble_eq_true rfl) dX7_readCommand_284 ⟨Nat.le_of_ble_eq_true rfl, Nat.le_of_ble_eq_true rfl⟩) hS hA (fun H locs hP1 hz hk hS => ?_)
            have hP : Md G b ((h_X7_done (oR ((h_X7_cellSign ((h_X7_carSign (oS M ((mS M) + 1))).2) ((h_X7_carSign (oS M ((mS M) + 1))).1)).2) ((h_X7_moveOn (mR ((h_X7_cellSign ((h_X7_carSign (oS M ((mS M) + 1))).2) ((h_X7_carSign (oS M ((mS M) + 1))).1)).2)) (((h_X7_carSign (oS M ((mS M) + 1))).1).toNatClampNeg) (((h_X7_cellSign ((h_X7_carSign (oS M ((mS M) + 1))).2) ((h_X7_carSign (oS M ((mS M) + 1))).1)).1).toNatClampNeg)).2)) 1).2) H := hP1
            refine lv_if_eq (tgt := 294) hx hb dX7_readCommand_287 (by decide) (fun c_25 => ?_) (fun c_25 => ?_)
            · exact absurd c_25 (done_1 _ _)
            · refine lv_iconst (v := 1) hx hb dX7_readCommand_290 (by decide) ?_
              refine lv_goto (tgt := 295) hx hb dX7_readCommand_291 (by decide) ?_
              have hE : h_X7_readCommand M = (1, (h_X7_done (oR ((h_X7_cellSign ((h_X7_carSign (oS M ((mS M) + 1))).2) ((h_X7_carSign (oS M ((mS M) + 1))).1)).2) ((h_X7_moveOn (mR ((h_X7_cellSign ((h_X7_carSign (oS M ((mS M) + 1))).2) ((h_X7_carSign (oS M ((mS M) + 1))).1)).2)) (((h_X7_carSign (oS M ((mS M) + 1))).1).toNatClampNeg) (((h_X7_cellSign ((h_X7_carSign (oS M ((mS M) + 1))).2) ((h_X7_carSign (oS M ((mS M) + 1))).1)).1).toNatClampNeg)).2)) 1).2) := (by rw [h_X7_readCommand, if_neg c_1, if_neg c_8, if_neg c_9, if_pos c_17, if_neg c_18, if_neg c_19, if_neg c_21, if_neg c_23])
              have hE2 := snd_of hE
              exact W.zret (ty := .boolean) hx hb hr rfl (fun t ht hW => ⟨by rw [fst_of hE], by rw [ht, hE2]; exact hP, hS.F ht⟩) hS.2.2 dX7_readCommand_295
  by_cases c_26 : ((mT M) (mS M).toNatClampNeg) = 112
  · refine lv_tableIn (off := 316) (tgt := 337) hx hb dX7_readCommand_21 (by rw [c_26]; decide) (by rw [c_26]; decide) (by rw [c_26]; decide +kernel) (by decide) ?_
    refine lv_aload_n hx hb dX7_readCommand_337 rfl (lv_at hl 1 rfl) ?_
    refine lv_iconst (v := 0) hx hb dX7_readCommand_338 (by decide) ?_
    refine lv_iconst (v := 2) hx hb dX7_readCommand_339 (by decide) ?_
    refine lv_iconst (v := 1) hx hb dX7_readCommand_340 (by decide) ?_
    refine lv_bipush (v := 60) hx hb dX7_readCommand_341 (by decide) ?_
    refine cl_mi (rV (As := [.int 0, .int 2, .int 1, .int 60]) (rest := []) ⟨hx, hb, hml, hown, hts⟩ (c_X7_figures l G b (oS M ((mS M) + 1)) 0 2 1 60 (by first | exact hTI | exact (hTI.up hsz).1 | (repeat (first | with_reducible exact (hTI.up hsz).1 | with_reducible apply fig_TI | with_reducible apply car_TI | with_reducible apply cel_TI)))) (cwV 4 hts gX7_readCommand_X7_figures rfl rfl rfl (by decide +kernel) ⟨Nat.le_of_ble_eq_true rfl, Nat.le_of_ble_eq_true rfl⟩) (md_recv hO hP) hP hO rfl hl.1 (Nat.le_of_ble_eq_true rfl) dX7_readCommand_343 ⟨Nat.le_of_ble_eq_true rfl, Nat.le_of_ble_eq_true rfl⟩) hS hA (fun H locs hP1 hz hk hS => ?_)
    have hP : Md G b ((h_X7_figures (oS M ((mS M) + 1)) 0 2 1 60).2) H := hP1
    refine lv_istore_n (lv' := [(3, .int ((h_X7_figures (oS M ((mS M) + 1)) 0 2 1 60).1)), (2, .int ((mT M) (mS M).toNatClampNeg)), (0, .ref b), (1, .ref (b + 3))]) hx hb dX7_readCommand_346 rfl hl (by decide) rfl (fun ls hl => ?_)
    refine lv_iload_n hx hb dX7_readCommand_347 rfl (lv_at hl 0 rfl) ?_
    refine lv_iconst (v := -1) hx hb dX7_readCommand_348 (by decide) ?_
    refine lv_icmp_eq (tgt := 376) hx hb dX7_readCommand_349 (by decide) (fun c_27 => ?_) (fun c_27 => ?_)
    · refine lv_iconst (v := 0) hx hb dX7_readCommand_376 (by decide) ?_
      have hE : h_X7_readCommand M = (0, (h_X7_figures (oS M ((mS M) + 1)) 0 2 1 60).2) := (by rw [h_X7_readCommand, if_neg c_1, if_neg c_8, if_neg c_9, if_neg c_17, if_pos c_26, if_pos c_27])
      have hE2 := snd_of hE
      exact W.zret (ty := .boolean) hx hb hr rfl (fun t ht hW => ⟨by rw [fst_of hE], by rw [ht, hE2]; exact hP, hS.F ht⟩) hS.2.2 dX7_readCommand_377
    · refine lv_aload_n hx hb dX7_readCommand_352 rfl (lv_at hl 2 rfl) ?_
      refine lv_aload_n hx hb dX7_readCommand_353 rfl (lv_at hl 3 rfl) ?_
      refine lv_iload_n hx hb dX7_readCommand_354 rfl (lv_at hl 0 rfl) ?_
      refine cl_mi (rS (As := [.ref (b + 3), .int ((h_X7_figures (oS M ((mS M) + 1)) 0 2 1 60).1)]) (rest := [.ref b]) ⟨hx, hb, hml, hown, hts⟩ (c_X7_minutesOn l G (b + 3) (mR ((h_X7_figures (oS M ((mS M) + 1)) 0 2 1 60).2)) ((h_X7_figures (oS M ((mS M) + 1)) 0 2 1 60).1) (by simp only [fig_R, car_R, cel_R, mR_oS]; exact hRI)) (va_cwS 2 hts gX7_readCommand_X7_minutesOn rfl rfl rfl (by decide +kernel) ⟨Nat.le_of_ble_eq_true rfl, Nat.le_of_ble_eq_true rfl⟩) (va_P.sub hP [3] rfl) hO rfl hl.1 (Nat.le_of_ble_eq_true rfl) dX7_readCommand_355 ⟨Nat.le_of_ble_eq_true rfl, Nat.le_of_ble_eq_true rfl⟩) hS (fun q h => hA q (by simp only [one, blk] at *; omega)) (fun H locs hP1 hz hk hS => ?_)
      have hP : Md G b (oR ((h_X7_figures (oS M ((mS M) + 1)) 0 2 1 60).2) ((h_X7_minutesOn (mR ((h_X7_figures (oS M ((mS M) + 1)) 0 2 1 60).2)) ((h_X7_figures (oS M ((mS M) + 1)) 0 2 1 60).1)).2)) H := md_pR (mo_row 3 hP rfl hP1 hk)
      refine lv_if_lt (tgt := 365) hx hb dX7_readCommand_358 (by decide) (fun c_28 => ?_) (fun c_28 => ?_)
      · refine lv_iconst (v := 0) hx hb dX7_readCommand_365 (by decide) ?_
        refine cl_mi (rV (As := [.int 0]) (rest := []) ⟨hx, hb, hml, hown, hts⟩ (c_X7_done l G b (oR ((h_X7_figures (oS M ((mS M) + 1)) 0 2 1 60).2) ((h_X7_minutesOn (mR ((h_X7_figures (oS M ((mS M) + 1)) 0 2 1 60).2)) ((h_X7_figures (oS M ((mS M) + 1)) 0 2 1 60).1)).2)) 0) (cwV 1 hts gX7_readCommand_X7_done rfl rfl rfl (by decide +kernel) ⟨Nat.le_of_ble_eq_true rfl, Nat.le_of_ble_eq_true rfl⟩) (md_recv hO hP) hP hO rfl hl.1 (Nat.le_of_ble_eq_true rfl) dX7_readCommand_366 ⟨Nat.le_of_ble_eq_true rfl, Nat.le_of_ble_eq_true rfl⟩) hS hA (fun H locs hP1 hz hk hS => ?_)
        have hP : Md G b ((h_X7_done (oR ((h_X7_figures (oS M ((mS M) + 1)) 0 2 1 60).2) ((h_X7_minutesOn (mR ((h_X7_figures (oS M ((mS M) + 1)) 0 2 1 60).2)) ((h_X7_figures (oS M ((mS M) + 1)) 0 2 1 60).1)).2)) 0).2) H := hP1
        refine lv_if_eq (tgt := 376) hx hb dX7_readCommand_369 (by decide) (fun c_29 => ?_) (fun c_29 => ?_)
        · exact absurd c_29 (done_1 _ _)
        · refine lv_iconst (v := 1) hx hb dX7_readCommand_372 (by decide) ?_
          refine lv_goto (tgt := 377) hx hb dX7_readCommand_373 (by decide) ?_
          have hE : h_X7_readCommand M = (1, (h_X7_done (oR ((h_X7_figures (oS M ((mS M) + 1)) 0 2 1 60).2) ((h_X7_minutesOn (mR ((h_X7_figures (oS M ((mS M) + 1)) 0 2 1 60).2)) ((h_X7_figures (oS M ((mS M) + 1)) 0 2 1 60).1)).2)) 0).2) := (by rw [h_X7_readCommand, if_neg c_1, if_neg c_8, if_neg c_9, if_neg c_17, if_pos c_26, if_neg c_27, if_pos c_28])
          have hE2 := snd_of hE
          exact W.zret (ty := .boolean) hx hb hr rfl (fun t ht hW => ⟨by rw [fst_of hE], by rw [ht, hE2]; exact hP, hS.F ht⟩) hS.2.2 dX7_readCommand_377
      · refine lv_iconst (v := 1) hx hb dX7_readCommand_361 (by decide) ?_
        refine lv_goto (tgt := 366) hx hb dX7_readCommand_362 (by decide) ?_
        refine cl_mi (rV (As := [.int 1]) (rest := []) ⟨hx, hb, hml, hown, hts⟩ (c_X7_done l G b (oR ((h_X7_figures (oS M ((mS M) + 1)) 0 2 1 60).2) ((h_X7_minutesOn (mR ((h_X7_figures (oS M ((mS M) + 1)) 0 2 1 60).2)) ((h_X7_figures (oS M ((mS M) + 1)) 0 2 1 60).1)).2)) 1) (cwV 1 hts gX7_readCommand_X7_done rfl rfl rfl (by decide +kernel) ⟨Nat.le_of_ble_eq_true rfl, Nat.le_of_ble_eq_true rfl⟩) (md_recv hO hP) hP hO rfl hl.1 (Nat.le_of_ble_eq_true rfl) dX7_readCommand_366 ⟨Nat.le_of_ble_eq_true rfl, Nat.le_of_ble_eq_true rfl⟩) hS hA (fun H locs hP1 hz hk hS => ?_)
        have hP : Md G b ((h_X7_done (oR ((h_X7_figures (oS M ((mS M) + 1)) 0 2 1 60).2) ((h_X7_minutesOn (mR ((h_X7_figures (oS M ((mS M) + 1)) 0 2 1 60).2)) ((h_X7_figures (oS M ((mS M) + 1)) 0 2 1 60).1)).2)) 1).2) H := hP1
        refine lv_if_eq (tgt := 376) hx hb dX7_readCommand_369 (by decide) (fun c_30 => ?_) (fun c_30 => ?_)
        · exact absurd c_30 (done_1 _ _)
        · refine lv_iconst (v := 1) hx hb dX7_readCommand_372 (by decide) ?_
          refine lv_goto (tgt := 377) hx hb dX7_readCommand_373 (by decide) ?_
          have hE : h_X7_readCommand M = (1, (h_X7_done (oR ((h_X7_figures (oS M ((mS M) + 1)) 0 2 1 60).2) ((h_X7_minutesOn (mR ((h_X7_figures (oS M ((mS M) + 1)) 0 2 1 60).2)) ((h_X7_figures (oS M ((mS M) + 1)) 0 2 1 60).1)).2)) 1).2) := (by rw [h_X7_readCommand, if_neg c_1, if_neg c_8, if_neg c_9, if_neg c_17, if_pos c_26, if_neg c_27, if_neg c_28])
          have hE2 := snd_of hE
          exact W.zret (ty := .boolean) hx hb hr rfl (fun t ht hW => ⟨by rw [fst_of hE], by rw [ht, hE2]; exact hP, hS.F ht⟩) hS.2.2 dX7_readCommand_377
  by_cases c_31 : ((mT M) (mS M).toNatClampNeg) = 114
  · refine lv_tableIn (off := 275) (tgt := 296) hx hb dX7_readCommand_21 (by rw [c_31]; decide) (by rw [c_31]; decide) (by rw [c_31]; decide +kernel) (by decide) ?_
    refine lv_aload_n hx hb dX7_readCommand_296 rfl (lv_at hl 1 rfl) ?_
    refine lv_iconst (v := 0) hx hb dX7_readCommand_297 (by decide) ?_
    refine lv_iconst (v := 1) hx hb dX7_readCommand_298 (by decide) ?_
    refine lv_iconst (v := 0) hx hb dX7_readCommand_299 (by decide) ?_
    refine lv_iconst (v := 2) hx hb dX7_readCommand_300 (by decide) ?_
    refine cl_mi (rV (As := [.int 0, .int 1, .int 0, .int 2]) (rest := []) ⟨hx, hb, hml, hown, hts⟩ (c_X7_figures l G b (oS M ((mS M) + 1)) 0 1 0 2 (by first | exact hTI | exact (hTI.up hsz).1 | (repeat (first | with_reducible exact (hTI.up hsz).1 | with_reducible apply fig_TI | with_reducible apply car_TI | with_reducible apply cel_TI)))) (cwV 4 hts gX7_readCommand_X7_figures rfl rfl rfl (by decide +kernel) ⟨Nat.le_of_ble_eq_true rfl, Nat.le_of_ble_eq_true rfl⟩) (md_recv hO hP) hP hO rfl hl.1 (Nat.le_of_ble_eq_true rfl) dX7_readCommand_301 ⟨Nat.le_of_ble_eq_true rfl, Nat.le_of_ble_eq_true rfl⟩) hS hA (fun H locs hP1 hz hk hS => ?_)
    have hP : Md G b ((h_X7_figures (oS M ((mS M) + 1)) 0 1 0 2).2) H := hP1
    refine lv_istore_n (lv' := [(3, .int ((h_X7_figures (oS M ((mS M) + 1)) 0 1 0 2).1)), (2, .int ((mT M) (mS M).toNatClampNeg)), (0, .ref b), (1, .ref (b + 3))]) hx hb dX7_readCommand_304 rfl hl (by decide) rfl (fun ls hl => ?_)
    refine lv_iload_n hx hb dX7_readCommand_305 rfl (lv_at hl 0 rfl) ?_
    refine lv_iconst (v := -1) hx hb dX7_readCommand_306 (by decide) ?_
    refine lv_icmp_eq (tgt := 335) hx hb dX7_readCommand_307 (by decide) (fun c_32 => ?_) (fun c_32 => ?_)
    · refine lv_iconst (v := 0) hx hb dX7_readCommand_335 (by decide) ?_
      have hE : h_X7_readCommand M = (0, (h_X7_figures (oS M ((mS M) + 1)) 0 1 0 2).2) := (by rw [h_X7_readCommand, if_neg c_1, if_neg c_8, if_neg c_9, if_neg c_17, if_neg c_26, if_pos c_31, if_pos c_32])
      have hE2 := snd_of hE
      exact W.zret (ty := .boolean) hx hb hr rfl (fun t ht hW => ⟨by rw [fst_of hE], by rw [ht, hE2]; exact hP, hS.F ht⟩) hS.2.2 dX7_readCommand_336
    · refine lv_aload_n hx hb dX7_readCommand_310 rfl (lv_at hl 2 rfl) ?_
      refine lv_aload_n hx hb dX7_readCommand_311 rfl (lv_at hl 3 rfl) ?_
      refine lv_iconst (v := 0) hx hb dX7_readCommand_312 (by decide) ?_
      refine lv_iload_n hx hb dX7_readCommand_313 rfl (lv_at hl 0 rfl) ?_
      refine cl_mi (rS (As := [.ref (b + 3), .int 0, .int ((h_X7_figures (oS M ((mS M) + 1)) 0 1 0 2).1)]) (rest := [.ref b]) ⟨hx, hb, hml, hown, hts⟩ (c_X7_change l G (b + 3) (mR ((h_X7_figures (oS M ((mS M) + 1)) 0 1 0 2).2)) 0 ((h_X7_figures (oS M ((mS M) + 1)) 0 1 0 2).1) (by omega)) (va_cwS 3 hts gX7_readCommand_X7_change rfl rfl rfl (by decide +kernel) ⟨Nat.le_of_ble_eq_true rfl, Nat.le_of_ble_eq_true rfl⟩) (va_P.sub hP [3] rfl) hO rfl hl.1 (Nat.le_of_ble_eq_true rfl) dX7_readCommand_314 ⟨Nat.le_of_ble_eq_true rfl, Nat.le_of_ble_eq_true rfl⟩) hS (fun q h => hA q (by simp only [one, blk] at *; omega)) (fun H locs hP1 hz hk hS => ?_)
      have hP : Md G b (oR ((h_X7_figures (oS M ((mS M) + 1)) 0 1 0 2).2) ((h_X7_change (mR ((h_X7_figures (oS M ((mS M) + 1)) 0 1 0 2).2)) 0 ((h_X7_figures (oS M ((mS M) + 1)) 0 1 0 2).1)).2)) H := md_pR (mo_row 3 hP rfl hP1 hk)
      refine lv_if_lt (tgt := 324) hx hb dX7_readCommand_317 (by decide) (fun c_33 => ?_) (fun c_33 => ?_)
      · refine lv_iconst (v := 0) hx hb dX7_readCommand_324 (by decide) ?_
        refine cl_mi (rV (As := [.int 0]) (rest := []) ⟨hx, hb, hml, hown, hts⟩ (c_X7_done l G b (oR ((h_X7_figures (oS M ((mS M) + 1)) 0 1 0 2).2) ((h_X7_change (mR ((h_X7_figures (oS M ((mS M) + 1)) 0 1 0 2).2)) 0 ((h_X7_figures (oS M ((mS M) + 1)) 0 1 0 2).1)).2)) 0) (cwV 1 hts gX7_readCommand_X7_done rfl rfl rfl (by decide +kernel) ⟨Nat.le_of_ble_eq_true rfl, Nat.le_of_ble_eq_true rfl⟩) (md_recv hO hP) hP hO rfl hl.1 (Nat.le_of_ble_eq_true rfl) dX7_readCommand_325 ⟨Nat.le_of_ble_eq_true rfl, Nat.le_of_ble_eq_true rfl⟩) hS hA (fun H locs hP1 hz hk hS => ?_)
        have hP : Md G b ((h_X7_done (oR ((h_X7_figures (oS M ((mS M) + 1)) 0 1 0 2).2) ((h_X7_change (mR ((h_X7_figures (oS M ((mS M) + 1)) 0 1 0 2).2)) 0 ((h_X7_figures (oS M ((mS M) + 1)) 0 1 0 2).1)).2)) 0).2) H := hP1
        refine lv_if_eq (tgt := 335) hx hb dX7_readCommand_328 (by decide) (fun c_34 => ?_) (fun c_34 => ?_)
        · exact absurd c_34 (done_1 _ _)
        · refine lv_iconst (v := 1) hx hb dX7_readCommand_331 (by decide) ?_
          refine lv_goto (tgt := 336) hx hb dX7_readCommand_332 (by decide) ?_
          have hE : h_X7_readCommand M = (1, (h_X7_done (oR ((h_X7_figures (oS M ((mS M) + 1)) 0 1 0 2).2) ((h_X7_change (mR ((h_X7_figures (oS M ((mS M) + 1)) 0 1 0 2).2)) 0 ((h_X7_figures (oS M ((mS M) + 1)) 0 1 0 2).1)).2)) 0).2) := (by rw [h_X7_readCommand, if_neg c_1, if_neg c_8, if_neg c_9, if_neg c_17, if_neg c_26, if_pos c_31, if_neg c_32, if_pos c_33])
          have hE2 := snd_of hE
          exact W.zret (ty := .boolean) hx hb hr rfl (fun t ht hW => ⟨by rw [fst_of hE], by rw [ht, hE2]; exact hP, hS.F ht⟩) hS.2.2 dX7_readCommand_336
      · refine lv_iconst (v := 1) hx hb dX7_readCommand_320 (by decide) ?_
        refine lv_goto (tgt := 325) hx hb dX7_readCommand_321 (by decide) ?_
        refine cl_mi (rV (As := [.int 1]) (rest := []) ⟨hx, hb, hml, hown, hts⟩ (c_X7_done l G b (oR ((h_X7_figures (oS M ((mS M) + 1)) 0 1 0 2).2) ((h_X7_change (mR ((h_X7_figures (oS M ((mS M) + 1)) 0 1 0 2).2)) 0 ((h_X7_figures (oS M ((mS M) + 1)) 0 1 0 2).1)).2)) 1) (cwV 1 hts gX7_readCommand_X7_done rfl rfl rfl (by decide +kernel) ⟨Nat.le_of_ble_eq_true rfl, Nat.le_of_ble_eq_true rfl⟩) (md_recv hO hP) hP hO rfl hl.1 (Nat.le_of_ble_eq_true rfl) dX7_readCommand_325 ⟨Nat.le_of_ble_eq_true rfl, Nat.le_of_ble_eq_true rfl⟩) hS hA (fun H locs hP1 hz hk hS => ?_)
        have hP : Md G b ((h_X7_done (oR ((h_X7_figures (oS M ((mS M) + 1)) 0 1 0 2).2) ((h_X7_change (mR ((h_X7_figures (oS M ((mS M) + 1)) 0 1 0 2).2)) 0 ((h_X7_figures (oS M ((mS M) + 1)) 0 1 0 2).1)).2)) 1).2) H := hP1
        refine lv_if_eq (tgt := 335) hx hb dX7_readCommand_328 (by decide) (fun c_35 => ?_) (fun c_35 => ?_)
        · exact absurd c_35 (done_1 _ _)
        · refine lv_iconst (v := 1) hx hb dX7_readCommand_331 (by decide) ?_
          refine lv_goto (tgt := 336) hx hb dX7_readCommand_332 (by decide) ?_
          have hE : h_X7_readCommand M = (1, (h_X7_done (oR ((h_X7_figures (oS M ((mS M) + 1)) 0 1 0 2).2) ((h_X7_change (mR ((h_X7_figures (oS M ((mS M) + 1)) 0 1 0 2).2)) 0 ((h_X7_figures (oS M ((mS M) + 1)) 0 1 0 2).1)).2)) 1).2) := (by rw [h_X7_readCommand, if_neg c_1, if_neg c_8, if_neg c_9, if_neg c_17, if_neg c_26, if_pos c_31, if_neg c_32, if_neg c_33])
          have hE2 := snd_of hE
          exact W.zret (ty := .boolean) hx hb hr rfl (fun t ht hW => ⟨by rw [fst_of hE], by rw [ht, hE2]; exact hP, hS.F ht⟩) hS.2.2 dX7_readCommand_336
  by_cases c_36 : ((mT M) (mS M).toNatClampNeg) = 116
  · refine lv_tableIn (off := 156) (tgt := 177) hx hb dX7_readCommand_21 (by rw [c_36]; decide) (by rw [c_36]; decide) (by rw [c_36]; decide +kernel) (by decide) ?_
    refine lv_aload_n hx hb dX7_readCommand_177 rfl (lv_at hl 1 rfl) ?_
    refine cl_mi (rV (As := []) (rest := []) ⟨hx, hb, hml, hown, hts⟩ (c_X7_carSign l G b (oS M ((mS M) + 1)) (by first | exact hTI | exact (hTI.up hsz).1 | (repeat (first | with_reducible exact (hTI.up hsz).1 | with_reducible apply fig_TI | with_reducible apply car_TI | with_reducible apply cel_TI)))) (cwV 0 hts gX7_readCommand_X7_carSign rfl rfl rfl (by decide +kernel) ⟨Nat.le_of_ble_eq_true rfl, Nat.le_of_ble_eq_true rfl⟩) (md_recv hO hP) hP hO rfl hl.1 (Nat.le_of_ble_eq_true rfl) dX7_readCommand_178 ⟨Nat.le_of_ble_eq_true rfl, Nat.le_of_ble_eq_true rfl⟩) hS hA (fun H locs hP1 hz hk hS => ?_)
    have hP : Md G b ((h_X7_carSign (oS M ((mS M) + 1))).2) H := hP1
    refine lv_istore_n (lv' := [(3, .int ((h_X7_carSign (oS M ((mS M) + 1))).1)), (2, .int ((mT M) (mS M).toNatClampNeg)), (0, .ref b), (1, .ref (b + 3))]) hx hb dX7_readCommand_181 rfl hl (by decide) rfl (fun ls hl => ?_)
    refine lv_iload_n hx hb dX7_readCommand_182 rfl (lv_at hl 0 rfl) ?_
    refine lv_iconst (v := -1) hx hb dX7_readCommand_183 (by decide) ?_
    refine lv_icmp_eq (tgt := 230) hx hb dX7_readCommand_184 (by decide) (fun c_37 => ?_) (fun c_37 => ?_)
    · refine lv_iconst (v := 0) hx hb dX7_readCommand_230 (by decide) ?_
      have hE : h_X7_readCommand M = (0, (h_X7_carSign (oS M ((mS M) + 1))).2) := (by rw [h_X7_readCommand, if_neg c_1, if_neg c_8, if_neg c_9, if_neg c_17, if_neg c_26, if_neg c_31, if_pos c_36, if_pos c_37])
      have hE2 := snd_of hE
      exact W.zret (ty := .boolean) hx hb hr rfl (fun t ht hW => ⟨by rw [fst_of hE], by rw [ht, hE2]; exact hP, hS.F ht⟩) hS.2.2 dX7_readCommand_231
    · refine lv_aload_n hx hb dX7_readCommand_187 rfl (lv_at hl 2 rfl) ?_
      refine lv_aload_n hx hb dX7_readCommand_188 rfl (lv_at hl 3 rfl) ?_
      refine lv_iload_n hx hb dX7_readCommand_189 rfl (lv_at hl 0 rfl) ?_
      refine cl_pi (rS (As := [.ref (b + 3), .int ((h_X7_carSign (oS M ((mS M) + 1))).1)]) (rest := [.ref b]) ⟨hx, hb, hml, hown, hts⟩ (c_X7_isParked l G (b + 3) (mR ((h_X7_carSign (oS M ((mS M) + 1))).2)) ((h_X7_carSign (oS M ((mS M) + 1))).1) (RI.M (by simp only [fig_R, car_R, cel_R, mR_oS]; exact hRI))) (va_cwS 2 hts gX7_readCommand_X7_isParked rfl rfl rfl (by decide +kernel) ⟨Nat.le_of_ble_eq_true rfl, Nat.le_of_ble_eq_true rfl⟩) (va_P.sub hP [3] rfl) hO rfl hl.1 (Nat.le_of_ble_eq_true rfl) dX7_readCommand_190 ⟨Nat.le_of_ble_eq_true rfl, Nat.le_of_ble_eq_true rfl⟩) ?_
      refine lv_if_eq (tgt := 219) hx hb dX7_readCommand_193 (by decide) (fun c_38 => ?_) (fun c_38 => ?_)
      · refine lv_iconst (v := 0) hx hb dX7_readCommand_219 (by decide) ?_
        refine cl_mi (rV (As := [.int 0]) (rest := []) ⟨hx, hb, hml, hown, hts⟩ (c_X7_done l G b ((h_X7_carSign (oS M ((mS M) + 1))).2) 0) (cwV 1 hts gX7_readCommand_X7_done rfl rfl rfl (by decide +kernel) ⟨Nat.le_of_ble_eq_true rfl, Nat.le_of_ble_eq_true rfl⟩) (md_recv hO hP) hP hO rfl hl.1 (Nat.le_of_ble_eq_true rfl) dX7_readCommand_220 ⟨Nat.le_of_ble_eq_true rfl, Nat.le_of_ble_eq_true rfl⟩) hS hA (fun H locs hP1 hz hk hS => ?_)
        have hP : Md G b ((h_X7_done ((h_X7_carSign (oS M ((mS M) + 1))).2) 0).2) H := hP1
        refine lv_if_eq (tgt := 230) hx hb dX7_readCommand_223 (by decide) (fun c_39 => ?_) (fun c_39 => ?_)
        · exact absurd c_39 (done_1 _ _)
        · refine lv_iconst (v := 1) hx hb dX7_readCommand_226 (by decide) ?_
          refine lv_goto (tgt := 231) hx hb dX7_readCommand_227 (by decide) ?_
          have hE : h_X7_readCommand M = (1, (h_X7_done ((h_X7_carSign (oS M ((mS M) + 1))).2) 0).2) := (by rw [h_X7_readCommand, if_neg c_1, if_neg c_8, if_neg c_9, if_neg c_17, if_neg c_26, if_neg c_31, if_pos c_36, if_neg c_37, if_pos c_38])
          have hE2 := snd_of hE
          exact W.zret (ty := .boolean) hx hb hr rfl (fun t ht hW => ⟨by rw [fst_of hE], by rw [ht, hE2]; exact hP, hS.F ht⟩) hS.2.2 dX7_readCommand_231
      · refine lv_aload_n hx hb dX7_readCommand_196 rfl (lv_at hl 3 rfl) ?_
        refine lv_iload_n hx hb dX7_readCommand_197 rfl (lv_at hl 0 rfl) ?_
        refine lv_iload_n hx hb dX7_readCommand_198 rfl (lv_at hl 1 rfl) ?_
        refine lv_bipush (v := 108) hx hb dX7_readCommand_199 (by decide) ?_
        refine lv_icmp_ne (tgt := 208) hx hb dX7_readCommand_201 (by decide) (fun c_40 => ?_) (fun c_40 => ?_)
        · refine lv_iconst (v := 4) hx hb dX7_readCommand_208 (by decide) ?_
          refine cl_mi (rS (As := [.ref (b + 3), .int ((h_X7_carSign (oS M ((mS M) + 1))).1), .int 4]) (rest := [.ref b]) ⟨hx, hb, hml, hown, hts⟩ (c_X7_goes_raw l G (b + 3) (mR ((h_X7_carSign (oS M ((mS M) + 1))).2)) ((h_X7_carSign (oS M ((mS M) + 1))).1) 4 (by simp only [fig_R, car_R, cel_R, mR_oS]; exact hRI) (by assumption)) (va_cwS 3 hts gX7_readCommand_X7_goes rfl rfl rfl (by decide +kernel) ⟨Nat.le_of_ble_eq_true rfl, Nat.le_of_ble_eq_true rfl⟩) (va_P.sub hP [3] rfl) hO rfl hl.1 (Nat.le_of_ble_eq_true rfl) dX7_readCommand_209 ⟨Nat.le_of_ble_eq_true rfl, Nat.le_of_ble_eq_true rfl⟩) hS (fun q h => hA q (by simp only [one, blk] at *; omega)) (fun H locs hP1 hz hk hS => ?_)
          have hP : Md G b (oR ((h_X7_carSign (oS M ((mS M) + 1))).2) ((h_X7_goes (mR ((h_X7_carSign (oS M ((mS M) + 1))).2)) (((h_X7_carSign (oS M ((mS M) + 1))).1).toNatClampNeg) 4).2)) H := md_pR (mo_row 3 hP rfl hP1 hk)
          refine lv_if_lt (tgt := 219) hx hb dX7_readCommand_212 (by decide) (fun c_41 => ?_) (fun c_41 => ?_)
          · refine lv_iconst (v := 0) hx hb dX7_readCommand_219 (by decide) ?_
            refine cl_mi (rV (As := [.int 0]) (rest := []) ⟨hx, hb, hml, hown, hts⟩ (c_X7_done l G b (oR ((h_X7_carSign (oS M ((mS M) + 1))).2) ((h_X7_goes (mR ((h_X7_carSign (oS M ((mS M) + 1))).2)) (((h_X7_carSign (oS M ((mS M) + 1))).1).toNatClampNeg) 4).2)) 0) (cwV 1 hts gX7_readCommand_X7_done rfl rfl rfl (by decide +kernel) ⟨Nat.le_of_ble_eq_true rfl, Nat.le_of_ble_eq_true rfl⟩) (md_recv hO hP) hP hO rfl hl.1 (Nat.le_of_ble_eq_true rfl) dX7_readCommand_220 ⟨Nat.le_of_ble_eq_true rfl, Nat.le_of_ble_eq_true rfl⟩) hS hA (fun H locs hP1 hz hk hS => ?_)
            have hP : Md G b ((h_X7_done (oR ((h_X7_carSign (oS M ((mS M) + 1))).2) ((h_X7_goes (mR ((h_X7_carSign (oS M ((mS M) + 1))).2)) (((h_X7_carSign (oS M ((mS M) + 1))).1).toNatClampNeg) 4).2)) 0).2) H := hP1
            refine lv_if_eq (tgt := 230) hx hb dX7_readCommand_223 (by decide) (fun c_42 => ?_) (fun c_42 => ?_)
            · exact absurd c_42 (done_1 _ _)
            · refine lv_iconst (v := 1) hx hb dX7_readCommand_226 (by decide) ?_
              refine lv_goto (tgt := 231) hx hb dX7_readCommand_227 (by decide) ?_
              have hE : h_X7_readCommand M = (1, (h_X7_done (oR ((h_X7_carSign (oS M ((mS M) + 1))).2) ((h_X7_goes (mR ((h_X7_carSign (oS M ((mS M) + 1))).2)) (((h_X7_carSign (oS M ((mS M) + 1))).1).toNatClampNeg) 4).2)) 0).2) := (by rw [h_X7_readCommand, if_neg c_1, if_neg c_8, if_neg c_9, if_neg c_17, if_neg c_26, if_neg c_31, if_pos c_36, if_neg c_37, if_neg c_38, if_pos c_41])
              have hE2 := snd_of hE
              exact W.zret (ty := .boolean) hx hb hr rfl (fun t ht hW => ⟨by rw [fst_of hE], by rw [ht, hE2]; exact hP, hS.F ht⟩) hS.2.2 dX7_readCommand_231
          · refine lv_iconst (v := 1) hx hb dX7_readCommand_215 (by decide) ?_
            refine lv_goto (tgt := 220) hx hb dX7_readCommand_216 (by decide) ?_
            refine cl_mi (rV (As := [.int 1]) (rest := []) ⟨hx, hb, hml, hown, hts⟩ (c_X7_done l G b (oR ((h_X7_carSign (oS M ((mS M) + 1))).2) ((h_X7_goes (mR ((h_X7_carSign (oS M ((mS M) + 1))).2)) (((h_X7_carSign (oS M ((mS M) + 1))).1).toNatClampNeg) 4).2)) 1) (cwV 1 hts gX7_readCommand_X7_done rfl rfl rfl (by decide +kernel) ⟨Nat.le_of_ble_eq_true rfl, Nat.le_of_ble_eq_true rfl⟩) (md_recv hO hP) hP hO rfl hl.1 (Nat.le_of_ble_eq_true rfl) dX7_readCommand_220 ⟨Nat.le_of_ble_eq_true rfl, Nat.le_of_ble_eq_true rfl⟩) hS hA (fun H locs hP1 hz hk hS => ?_)
            have hP : Md G b ((h_X7_done (oR ((h_X7_carSign (oS M ((mS M) + 1))).2) ((h_X7_goes (mR ((h_X7_carSign (oS M ((mS M) + 1))).2)) (((h_X7_carSign (oS M ((mS M) + 1))).1).toNatClampNeg) 4).2)) 1).2) H := hP1
            refine lv_if_eq (tgt := 230) hx hb dX7_readCommand_223 (by decide) (fun c_43 => ?_) (fun c_43 => ?_)
            · exact absurd c_43 (done_1 _ _)
            · refine lv_iconst (v := 1) hx hb dX7_readCommand_226 (by decide) ?_
              refine lv_goto (tgt := 231) hx hb dX7_readCommand_227 (by decide) ?_
              have hE : h_X7_readCommand M = (1, (h_X7_done (oR ((h_X7_carSign (oS M ((mS M) + 1))).2) ((h_X7_goes (mR ((h_X7_carSign (oS M ((mS M) + 1))).2)) (((h_X7_carSign (oS M ((mS M) + 1))).1).toNatClampNeg) 4).2)) 1).2) := (by rw [h_X7_readCommand, if_neg c_1, if_neg c_8, if_neg c_9, if_neg c_17, if_neg c_26, if_neg c_31, if_pos c_36, if_neg c_37, if_neg c_38, if_neg c_41])
              have hE2 := snd_of hE
              exact W.zret (ty := .boolean) hx hb hr rfl (fun t ht hW => ⟨by rw [fst_of hE], by rw [ht, hE2]; exact hP, hS.F ht⟩) hS.2.2 dX7_readCommand_231
        · exact absurd c_40 c_9
  refine lv_tableD (tgt := 378) hx hb dX7_readCommand_21 (by intro i h1 h2 h3; rcases (show i = 99 ∨ i = 100 ∨ i = 101 ∨ i = 102 ∨ i = 103 ∨ i = 104 ∨ i = 105 ∨ i = 106 ∨ i = 107 ∨ i = 108 ∨ i = 109 ∨ i = 110 ∨ i = 111 ∨ i = 112 ∨ i = 113 ∨ i = 114 ∨ i = 115 ∨ i = 116 by omega) with rfl | rfl | rfl | rfl | rfl | rfl | rfl | rfl | rfl | rfl | rfl | rfl | rfl | rfl | rfl | rfl | rfl | rfl; all_goals first | decide +kernel | (clear h1 h2; first | exact absurd (Int32.toInt_inj.mp (h3.symm.trans (show (99 : Int) = (99 : Int32).toInt by decide))) c_1 | exact absurd (Int32.toInt_inj.mp (h3.symm.trans (show (104 : Int) = (104 : Int32).toInt by decide))) c_8 | exact absurd (Int32.toInt_inj.mp (h3.symm.trans (show (108 : Int) = (108 : Int32).toInt by decide))) c_9 | exact absurd (Int32.toInt_inj.mp (h3.symm.trans (show (109 : Int) = (109 : Int32).toInt by decide))) c_17 | exact absurd (Int32.toInt_inj.mp (h3.symm.trans (show (112 : Int) = (112 : Int32).toInt by decide))) c_26 | exact absurd (Int32.toInt_inj.mp (h3.symm.trans (show (114 : Int) = (114 : Int32).toInt by decide))) c_31 | exact absurd (Int32.toInt_inj.mp (h3.symm.trans (show (116 : Int) = (116 : Int32).toInt by decide))) c_36)) (by decide) ?_
  refine lv_aload_n hx hb dX7_readCommand_378 rfl (lv_at hl 1 rfl) ?_
  refine lv_dup hx hb dX7_readCommand_379 rfl ?_
  refine va_get (D := G.1) (ci := 5) (v := .int (mS (oS M ((mS M) + 1)))) (C := RX7) (T := TX7) (N := 12) hx hb hts hin7 hown hO.1 hP 0 rfl rfl 10 (by decide) hf_140 (fun _ h9 => h9) rfl dX7_readCommand_380 ?_
  refine lv_iconst (v := 1) hx hb dX7_readCommand_383 (by decide) ?_
  refine lv_isub hx hb dX7_readCommand_384 ?_
  refine va_put (D := G.1) (ci := 5) (v := .int ((mS (oS M ((mS M) + 1))) - 1)) (ty := .int) (C := RX7) (T := TX7) (N := 12) hx hb hts hin7 tyX7 tyX7_ok nmX7 hown hO.1 hP (md_D b (oS M ((mS M) + 1)) hA) hS 0 rfl rfl 10 (by decide) hf_140 (fun _ h9 => h9) rfl (by decide +kernel) rfl rfl (Nat.le_of_ble_eq_true rfl) dX7_readCommand_385 (fun H locs hP hD hS => ?_)
  have hP : Md G b (oS (oS M ((mS M) + 1)) ((mS (oS M ((mS M) + 1))) - 1)) H := md_pS hP
  refine lv_iconst (v := 0) hx hb dX7_readCommand_388 (by decide) ?_
  have hE : h_X7_readCommand M = (0, (oS (oS M ((mS M) + 1)) ((mS (oS M ((mS M) + 1))) - 1))) := (by rw [h_X7_readCommand, if_neg c_1, if_neg c_8, if_neg c_9, if_neg c_17, if_neg c_26, if_neg c_31, if_neg c_36])
  have hE2 := snd_of hE
  exact W.zret (ty := .boolean) hx hb hr rfl (fun t ht hW => ⟨by rw [fst_of hE], by rw [ht, hE2]; exact hP, hS.F ht⟩) hS.2.2 dX7_readCommand_389

theorem RI_goesq {g : Rw} {c sta : Int32} (h : RI g) (hp : ¬ f_X7_isParked g c = 0) (hs : sta ≠ 0) : RI (h_X7_goes g c.toNatClampNeg sta).2 := by
  obtain ⟨j, hj, rfl, h2⟩ := park_c h hp
  have hm := h.m
  rw [nI_clamp (by omega)]
  exact RI_goes h (h.X hj h2).2.2 hs
theorem RI_mvq {g : Rw} {c x : Int32} (h : RI g) (hi : ¬ f_X7_isCar g c = 0) (hx : ∃ j, j < 80 ∧ x = nI j) (hm : ¬ f_X7_canMove g c.toNatClampNeg x.toNatClampNeg = 0) : RI (h_X7_moveOn g c.toNatClampNeg x.toNatClampNeg).2 := by
  obtain ⟨j, hj, rfl⟩ := car_40x hi h
  obtain ⟨u, hu, rfl⟩ := hx
  rw [nI_clamp (by omega), nI_clamp (by omega)] at hm ⊢
  have q := mv_ok h hj hu hm
  exact RI_moveOn h q.1 q.2.1 q.2.2

set_option maxHeartbeats 4000000 in
theorem cmd_ok {M : Mo} (hTI : TI M) (hsz : sp M < zz M) (h : RI (mR M)) : RI (mR (h_X7_readCommand M).2) := by
  have h1 : RI (mR (oS M ((mS M) + 1))) := h
  rw [h_X7_readCommand]
  by_cases q1 : ((mT M) (mS M).toNatClampNeg) = 99
  · rw [if_pos q1]
    by_cases q2 : ((h_X7_figures ((h_X7_figures (oS M ((mS M) + 1)) 0 1 2 8).2) ((h_X7_figures (oS M ((mS M) + 1)) 0 1 2 8).1) 2 1 99).1) = (-1)
    · rw [if_pos q2]
      dsimp only
      (repeat (first | with_reducible exact h1 | with_reducible apply done_RI | with_reducible apply fig_RI | with_reducible apply car_RI | with_reducible apply cel_RI))
    · rw [if_neg q2]
      by_cases q3 : 40 ≤ ((mR ((h_X7_figures ((h_X7_figures (oS M ((mS M) + 1)) 0 1 2 8).2) ((h_X7_figures (oS M ((mS M) + 1)) 0 1 2 8).1) 2 1 99).2)) 0)
      · rw [if_pos q3]
        dsimp only
        (repeat (first | with_reducible exact h1 | with_reducible apply done_RI | with_reducible apply fig_RI | with_reducible apply car_RI | with_reducible apply cel_RI))
      · rw [if_neg q3]
        by_cases q4 : ((h_X7_comeOn (mR ((h_X7_figures ((h_X7_figures (oS M ((mS M) + 1)) 0 1 2 8).2) ((h_X7_figures (oS M ((mS M) + 1)) 0 1 2 8).1) 2 1 99).2)) ((h_X7_figures (oS M ((mS M) + 1)) 0 1 2 8).1) ((h_X7_figures ((h_X7_figures (oS M ((mS M) + 1)) 0 1 2 8).2) ((h_X7_figures (oS M ((mS M) + 1)) 0 1 2 8).1) 2 1 99).1)).1) < 0
        · rw [if_pos q4]
          have hY : RI (mR ((h_X7_figures ((h_X7_figures (oS M ((mS M) + 1)) 0 1 2 8).2) ((h_X7_figures (oS M ((mS M) + 1)) 0 1 2 8).1) 2 1 99).2)) := by (repeat (first | with_reducible exact h1 | with_reducible apply done_RI | with_reducible apply fig_RI | with_reducible apply car_RI | with_reducible apply cel_RI))
          exact done_RI (RI_oR (RI_come hY (gm40 hY (by assumption)) (fig_len (by assumption))))
        · rw [if_neg q4]
          have hY : RI (mR ((h_X7_figures ((h_X7_figures (oS M ((mS M) + 1)) 0 1 2 8).2) ((h_X7_figures (oS M ((mS M) + 1)) 0 1 2 8).1) 2 1 99).2)) := by (repeat (first | with_reducible exact h1 | with_reducible apply done_RI | with_reducible apply fig_RI | with_reducible apply car_RI | with_reducible apply cel_RI))
          exact done_RI (RI_oR (RI_come hY (gm40 hY (by assumption)) (fig_len (by assumption))))
  · rw [if_neg q1]
    by_cases q5 : ((mT M) (mS M).toNatClampNeg) = 104
    · rw [if_pos q5]
      exact hyd_RI h1
    · rw [if_neg q5]
      by_cases q6 : ((mT M) (mS M).toNatClampNeg) = 108
      · rw [if_pos q6]
        by_cases q7 : ((h_X7_carSign (oS M ((mS M) + 1))).1) = (-1)
        · rw [if_pos q7]
          dsimp only
          (repeat (first | with_reducible exact h1 | with_reducible apply done_RI | with_reducible apply fig_RI | with_reducible apply car_RI | with_reducible apply cel_RI))
        · rw [if_neg q7]
          by_cases q8 : (f_X7_isParked (mR ((h_X7_carSign (oS M ((mS M) + 1))).2)) ((h_X7_carSign (oS M ((mS M) + 1))).1)) = 0
          · rw [if_pos q8]
            dsimp only
            (repeat (first | with_reducible exact h1 | with_reducible apply done_RI | with_reducible apply fig_RI | with_reducible apply car_RI | with_reducible apply cel_RI))
          · rw [if_neg q8]
            by_cases q9 : ((h_X7_goes (mR ((h_X7_carSign (oS M ((mS M) + 1))).2)) (((h_X7_carSign (oS M ((mS M) + 1))).1).toNatClampNeg) 2).1) < 0
            · rw [if_pos q9]
              have hY : RI (mR ((h_X7_carSign (oS M ((mS M) + 1))).2)) := by (repeat (first | with_reducible exact h1 | with_reducible apply done_RI | with_reducible apply fig_RI | with_reducible apply car_RI | with_reducible apply cel_RI))
              exact done_RI (RI_oR (RI_goesq hY (by assumption) (by decide)))
            · rw [if_neg q9]
              have hY : RI (mR ((h_X7_carSign (oS M ((mS M) + 1))).2)) := by (repeat (first | with_reducible exact h1 | with_reducible apply done_RI | with_reducible apply fig_RI | with_reducible apply car_RI | with_reducible apply cel_RI))
              exact done_RI (RI_oR (RI_goesq hY (by assumption) (by decide)))
      · rw [if_neg q6]
        by_cases q10 : ((mT M) (mS M).toNatClampNeg) = 109
        · rw [if_pos q10]
          by_cases q11 : ((h_X7_cellSign ((h_X7_carSign (oS M ((mS M) + 1))).2) ((h_X7_carSign (oS M ((mS M) + 1))).1)).1) = (-1)
          · rw [if_pos q11]
            dsimp only
            (repeat (first | with_reducible exact h1 | with_reducible apply done_RI | with_reducible apply fig_RI | with_reducible apply car_RI | with_reducible apply cel_RI))
          · rw [if_neg q11]
            by_cases q12 : (f_X7_isCar (mR ((h_X7_cellSign ((h_X7_carSign (oS M ((mS M) + 1))).2) ((h_X7_carSign (oS M ((mS M) + 1))).1)).2)) ((h_X7_carSign (oS M ((mS M) + 1))).1)) = 0
            · rw [if_pos q12]
              dsimp only
              (repeat (first | with_reducible exact h1 | with_reducible apply done_RI | with_reducible apply fig_RI | with_reducible apply car_RI | with_reducible apply cel_RI))
            · rw [if_neg q12]
              by_cases q13 : (f_X7_canMove (mR ((h_X7_cellSign ((h_X7_carSign (oS M ((mS M) + 1))).2) ((h_X7_carSign (oS M ((mS M) + 1))).1)).2)) (((h_X7_carSign (oS M ((mS M) + 1))).1).toNatClampNeg) (((h_X7_cellSign ((h_X7_carSign (oS M ((mS M) + 1))).2) ((h_X7_carSign (oS M ((mS M) + 1))).1)).1).toNatClampNeg)) = 0
              · rw [if_pos q13]
                dsimp only
                (repeat (first | with_reducible exact h1 | with_reducible apply done_RI | with_reducible apply fig_RI | with_reducible apply car_RI | with_reducible apply cel_RI))
              · rw [if_neg q13]
                by_cases q14 : ((h_X7_moveOn (mR ((h_X7_cellSign ((h_X7_carSign (oS M ((mS M) + 1))).2) ((h_X7_carSign (oS M ((mS M) + 1))).1)).2)) (((h_X7_carSign (oS M ((mS M) + 1))).1).toNatClampNeg) (((h_X7_cellSign ((h_X7_carSign (oS M ((mS M) + 1))).2) ((h_X7_carSign (oS M ((mS M) + 1))).1)).1).toNatClampNeg)).1) < 0
                · rw [if_pos q14]
                  have hY : RI (mR ((h_X7_cellSign ((h_X7_carSign (oS M ((mS M) + 1))).2) ((h_X7_carSign (oS M ((mS M) + 1))).1)).2)) := by (repeat (first | with_reducible exact h1 | with_reducible apply done_RI | with_reducible apply fig_RI | with_reducible apply car_RI | with_reducible apply cel_RI))
                  exact done_RI (RI_oR (RI_mvq hY (by assumption) (cel_n (by assumption)) (by assumption)))
                · rw [if_neg q14]
                  have hY : RI (mR ((h_X7_cellSign ((h_X7_carSign (oS M ((mS M) + 1))).2) ((h_X7_carSign (oS M ((mS M) + 1))).1)).2)) := by (repeat (first | with_reducible exact h1 | with_reducible apply done_RI | with_reducible apply fig_RI | with_reducible apply car_RI | with_reducible apply cel_RI))
                  exact done_RI (RI_oR (RI_mvq hY (by assumption) (cel_n (by assumption)) (by assumption)))
        · rw [if_neg q10]
          by_cases q15 : ((mT M) (mS M).toNatClampNeg) = 112
          · rw [if_pos q15]
            by_cases q16 : ((h_X7_figures (oS M ((mS M) + 1)) 0 2 1 60).1) = (-1)
            · rw [if_pos q16]
              dsimp only
              (repeat (first | with_reducible exact h1 | with_reducible apply done_RI | with_reducible apply fig_RI | with_reducible apply car_RI | with_reducible apply cel_RI))
            · rw [if_neg q16]
              by_cases q17 : ((h_X7_minutesOn (mR ((h_X7_figures (oS M ((mS M) + 1)) 0 2 1 60).2)) ((h_X7_figures (oS M ((mS M) + 1)) 0 2 1 60).1)).1) < 0
              · rw [if_pos q17]
                have hY : RI (mR ((h_X7_figures (oS M ((mS M) + 1)) 0 2 1 60).2)) := by (repeat (first | with_reducible exact h1 | with_reducible apply done_RI | with_reducible apply fig_RI | with_reducible apply car_RI | with_reducible apply cel_RI))
                exact done_RI (RI_oR (RI_mins hY _))
              · rw [if_neg q17]
                have hY : RI (mR ((h_X7_figures (oS M ((mS M) + 1)) 0 2 1 60).2)) := by (repeat (first | with_reducible exact h1 | with_reducible apply done_RI | with_reducible apply fig_RI | with_reducible apply car_RI | with_reducible apply cel_RI))
                exact done_RI (RI_oR (RI_mins hY _))
          · rw [if_neg q15]
            by_cases q18 : ((mT M) (mS M).toNatClampNeg) = 114
            · rw [if_pos q18]
              by_cases q19 : ((h_X7_figures (oS M ((mS M) + 1)) 0 1 0 2).1) = (-1)
              · rw [if_pos q19]
                dsimp only
                (repeat (first | with_reducible exact h1 | with_reducible apply done_RI | with_reducible apply fig_RI | with_reducible apply car_RI | with_reducible apply cel_RI))
              · rw [if_neg q19]
                by_cases q20 : ((h_X7_change (mR ((h_X7_figures (oS M ((mS M) + 1)) 0 1 0 2).2)) 0 ((h_X7_figures (oS M ((mS M) + 1)) 0 1 0 2).1)).1) < 0
                · rw [if_pos q20]
                  have hY : RI (mR ((h_X7_figures (oS M ((mS M) + 1)) 0 1 0 2).2)) := by (repeat (first | with_reducible exact h1 | with_reducible apply done_RI | with_reducible apply fig_RI | with_reducible apply car_RI | with_reducible apply cel_RI))
                  exact done_RI (RI_oR (RI_chg hY (by omega) _ (fun z => absurd z (by decide))))
                · rw [if_neg q20]
                  have hY : RI (mR ((h_X7_figures (oS M ((mS M) + 1)) 0 1 0 2).2)) := by (repeat (first | with_reducible exact h1 | with_reducible apply done_RI | with_reducible apply fig_RI | with_reducible apply car_RI | with_reducible apply cel_RI))
                  exact done_RI (RI_oR (RI_chg hY (by omega) _ (fun z => absurd z (by decide))))
            · rw [if_neg q18]
              by_cases q21 : ((mT M) (mS M).toNatClampNeg) = 116
              · rw [if_pos q21]
                by_cases q22 : ((h_X7_carSign (oS M ((mS M) + 1))).1) = (-1)
                · rw [if_pos q22]
                  dsimp only
                  (repeat (first | with_reducible exact h1 | with_reducible apply done_RI | with_reducible apply fig_RI | with_reducible apply car_RI | with_reducible apply cel_RI))
                · rw [if_neg q22]
                  by_cases q23 : (f_X7_isParked (mR ((h_X7_carSign (oS M ((mS M) + 1))).2)) ((h_X7_carSign (oS M ((mS M) + 1))).1)) = 0
                  · rw [if_pos q23]
                    dsimp only
                    (repeat (first | with_reducible exact h1 | with_reducible apply done_RI | with_reducible apply fig_RI | with_reducible apply car_RI | with_reducible apply cel_RI))
                  · rw [if_neg q23]
                    by_cases q24 : ((h_X7_goes (mR ((h_X7_carSign (oS M ((mS M) + 1))).2)) (((h_X7_carSign (oS M ((mS M) + 1))).1).toNatClampNeg) 4).1) < 0
                    · rw [if_pos q24]
                      have hY : RI (mR ((h_X7_carSign (oS M ((mS M) + 1))).2)) := by (repeat (first | with_reducible exact h1 | with_reducible apply done_RI | with_reducible apply fig_RI | with_reducible apply car_RI | with_reducible apply cel_RI))
                      exact done_RI (RI_oR (RI_goesq hY (by assumption) (by decide)))
                    · rw [if_neg q24]
                      have hY : RI (mR ((h_X7_carSign (oS M ((mS M) + 1))).2)) := by (repeat (first | with_reducible exact h1 | with_reducible apply done_RI | with_reducible apply fig_RI | with_reducible apply car_RI | with_reducible apply cel_RI))
                      exact done_RI (RI_oR (RI_goesq hY (by assumption) (by decide)))
              · rw [if_neg q21]
                dsimp only
                (repeat (first | with_reducible exact h1 | with_reducible apply done_RI | with_reducible apply fig_RI | with_reducible apply car_RI | with_reducible apply cel_RI))
set_option maxHeartbeats 4000000 in
theorem cmd_Adv {M : Mo} (hTI : TI M) (hsz : sp M < zz M) : ¬ (h_X7_readCommand M).1 = 0 → Adv (oS M ((mS M) + 1)) (h_X7_readCommand M).2 := by
  have a0 := (hTI.up hsz).1.A
  rw [h_X7_readCommand]
  by_cases q1 : ((mT M) (mS M).toNatClampNeg) = 99
  · rw [if_pos q1]
    by_cases q2 : ((h_X7_figures ((h_X7_figures (oS M ((mS M) + 1)) 0 1 2 8).2) ((h_X7_figures (oS M ((mS M) + 1)) 0 1 2 8).1) 2 1 99).1) = (-1)
    · rw [if_pos q2]
      exact fun z => absurd rfl z
    · rw [if_neg q2]
      by_cases q3 : 40 ≤ ((mR ((h_X7_figures ((h_X7_figures (oS M ((mS M) + 1)) 0 1 2 8).2) ((h_X7_figures (oS M ((mS M) + 1)) 0 1 2 8).1) 2 1 99).2)) 0)
      · rw [if_pos q3]
        intro _
        dsimp only
        (repeat (first | with_reducible exact a0 | with_reducible apply done_Adv | with_reducible apply hyd_Adv | with_reducible apply fig_Adv | with_reducible apply car_Adv | with_reducible apply cel_Adv | with_reducible apply oR_Adv))
      · rw [if_neg q3]
        by_cases q4 : ((h_X7_comeOn (mR ((h_X7_figures ((h_X7_figures (oS M ((mS M) + 1)) 0 1 2 8).2) ((h_X7_figures (oS M ((mS M) + 1)) 0 1 2 8).1) 2 1 99).2)) ((h_X7_figures (oS M ((mS M) + 1)) 0 1 2 8).1) ((h_X7_figures ((h_X7_figures (oS M ((mS M) + 1)) 0 1 2 8).2) ((h_X7_figures (oS M ((mS M) + 1)) 0 1 2 8).1) 2 1 99).1)).1) < 0
        · rw [if_pos q4]
          intro _
          dsimp only
          (repeat (first | with_reducible exact a0 | with_reducible apply done_Adv | with_reducible apply hyd_Adv | with_reducible apply fig_Adv | with_reducible apply car_Adv | with_reducible apply cel_Adv | with_reducible apply oR_Adv))
        · rw [if_neg q4]
          intro _
          dsimp only
          (repeat (first | with_reducible exact a0 | with_reducible apply done_Adv | with_reducible apply hyd_Adv | with_reducible apply fig_Adv | with_reducible apply car_Adv | with_reducible apply cel_Adv | with_reducible apply oR_Adv))
  · rw [if_neg q1]
    by_cases q5 : ((mT M) (mS M).toNatClampNeg) = 104
    · rw [if_pos q5]
      intro _
      dsimp only
      (repeat (first | with_reducible exact a0 | with_reducible apply done_Adv | with_reducible apply hyd_Adv | with_reducible apply fig_Adv | with_reducible apply car_Adv | with_reducible apply cel_Adv | with_reducible apply oR_Adv))
    · rw [if_neg q5]
      by_cases q6 : ((mT M) (mS M).toNatClampNeg) = 108
      · rw [if_pos q6]
        by_cases q7 : ((h_X7_carSign (oS M ((mS M) + 1))).1) = (-1)
        · rw [if_pos q7]
          exact fun z => absurd rfl z
        · rw [if_neg q7]
          by_cases q8 : (f_X7_isParked (mR ((h_X7_carSign (oS M ((mS M) + 1))).2)) ((h_X7_carSign (oS M ((mS M) + 1))).1)) = 0
          · rw [if_pos q8]
            intro _
            dsimp only
            (repeat (first | with_reducible exact a0 | with_reducible apply done_Adv | with_reducible apply hyd_Adv | with_reducible apply fig_Adv | with_reducible apply car_Adv | with_reducible apply cel_Adv | with_reducible apply oR_Adv))
          · rw [if_neg q8]
            by_cases q9 : ((h_X7_goes (mR ((h_X7_carSign (oS M ((mS M) + 1))).2)) (((h_X7_carSign (oS M ((mS M) + 1))).1).toNatClampNeg) 2).1) < 0
            · rw [if_pos q9]
              intro _
              dsimp only
              (repeat (first | with_reducible exact a0 | with_reducible apply done_Adv | with_reducible apply hyd_Adv | with_reducible apply fig_Adv | with_reducible apply car_Adv | with_reducible apply cel_Adv | with_reducible apply oR_Adv))
            · rw [if_neg q9]
              intro _
              dsimp only
              (repeat (first | with_reducible exact a0 | with_reducible apply done_Adv | with_reducible apply hyd_Adv | with_reducible apply fig_Adv | with_reducible apply car_Adv | with_reducible apply cel_Adv | with_reducible apply oR_Adv))
      · rw [if_neg q6]
        by_cases q10 : ((mT M) (mS M).toNatClampNeg) = 109
        · rw [if_pos q10]
          by_cases q11 : ((h_X7_cellSign ((h_X7_carSign (oS M ((mS M) + 1))).2) ((h_X7_carSign (oS M ((mS M) + 1))).1)).1) = (-1)
          · rw [if_pos q11]
            exact fun z => absurd rfl z
          · rw [if_neg q11]
            by_cases q12 : (f_X7_isCar (mR ((h_X7_cellSign ((h_X7_carSign (oS M ((mS M) + 1))).2) ((h_X7_carSign (oS M ((mS M) + 1))).1)).2)) ((h_X7_carSign (oS M ((mS M) + 1))).1)) = 0
            · rw [if_pos q12]
              intro _
              dsimp only
              (repeat (first | with_reducible exact a0 | with_reducible apply done_Adv | with_reducible apply hyd_Adv | with_reducible apply fig_Adv | with_reducible apply car_Adv | with_reducible apply cel_Adv | with_reducible apply oR_Adv))
            · rw [if_neg q12]
              by_cases q13 : (f_X7_canMove (mR ((h_X7_cellSign ((h_X7_carSign (oS M ((mS M) + 1))).2) ((h_X7_carSign (oS M ((mS M) + 1))).1)).2)) (((h_X7_carSign (oS M ((mS M) + 1))).1).toNatClampNeg) (((h_X7_cellSign ((h_X7_carSign (oS M ((mS M) + 1))).2) ((h_X7_carSign (oS M ((mS M) + 1))).1)).1).toNatClampNeg)) = 0
              · rw [if_pos q13]
                intro _
                dsimp only
                (repeat (first | with_reducible exact a0 | with_reducible apply done_Adv | with_reducible apply hyd_Adv | with_reducible apply fig_Adv | with_reducible apply car_Adv | with_reducible apply cel_Adv | with_reducible apply oR_Adv))
              · rw [if_neg q13]
                by_cases q14 : ((h_X7_moveOn (mR ((h_X7_cellSign ((h_X7_carSign (oS M ((mS M) + 1))).2) ((h_X7_carSign (oS M ((mS M) + 1))).1)).2)) (((h_X7_carSign (oS M ((mS M) + 1))).1).toNatClampNeg) (((h_X7_cellSign ((h_X7_carSign (oS M ((mS M) + 1))).2) ((h_X7_carSign (oS M ((mS M) + 1))).1)).1).toNatClampNeg)).1) < 0
                · rw [if_pos q14]
                  intro _
                  dsimp only
                  (repeat (first | with_reducible exact a0 | with_reducible apply done_Adv | with_reducible apply hyd_Adv | with_reducible apply fig_Adv | with_reducible apply car_Adv | with_reducible apply cel_Adv | with_reducible apply oR_Adv))
                · rw [if_neg q14]
                  intro _
                  dsimp only
                  (repeat (first | with_reducible exact a0 | with_reducible apply done_Adv | with_reducible apply hyd_Adv | with_reducible apply fig_Adv | with_reducible apply car_Adv | with_reducible apply cel_Adv | with_reducible apply oR_Adv))
        · rw [if_neg q10]
          by_cases q15 : ((mT M) (mS M).toNatClampNeg) = 112
          · rw [if_pos q15]
            by_cases q16 : ((h_X7_figures (oS M ((mS M) + 1)) 0 2 1 60).1) = (-1)
            · rw [if_pos q16]
              exact fun z => absurd rfl z
            · rw [if_neg q16]
              by_cases q17 : ((h_X7_minutesOn (mR ((h_X7_figures (oS M ((mS M) + 1)) 0 2 1 60).2)) ((h_X7_figures (oS M ((mS M) + 1)) 0 2 1 60).1)).1) < 0
              · rw [if_pos q17]
                intro _
                dsimp only
                (repeat (first | with_reducible exact a0 | with_reducible apply done_Adv | with_reducible apply hyd_Adv | with_reducible apply fig_Adv | with_reducible apply car_Adv | with_reducible apply cel_Adv | with_reducible apply oR_Adv))
              · rw [if_neg q17]
                intro _
                dsimp only
                (repeat (first | with_reducible exact a0 | with_reducible apply done_Adv | with_reducible apply hyd_Adv | with_reducible apply fig_Adv | with_reducible apply car_Adv | with_reducible apply cel_Adv | with_reducible apply oR_Adv))
          · rw [if_neg q15]
            by_cases q18 : ((mT M) (mS M).toNatClampNeg) = 114
            · rw [if_pos q18]
              by_cases q19 : ((h_X7_figures (oS M ((mS M) + 1)) 0 1 0 2).1) = (-1)
              · rw [if_pos q19]
                exact fun z => absurd rfl z
              · rw [if_neg q19]
                by_cases q20 : ((h_X7_change (mR ((h_X7_figures (oS M ((mS M) + 1)) 0 1 0 2).2)) 0 ((h_X7_figures (oS M ((mS M) + 1)) 0 1 0 2).1)).1) < 0
                · rw [if_pos q20]
                  intro _
                  dsimp only
                  (repeat (first | with_reducible exact a0 | with_reducible apply done_Adv | with_reducible apply hyd_Adv | with_reducible apply fig_Adv | with_reducible apply car_Adv | with_reducible apply cel_Adv | with_reducible apply oR_Adv))
                · rw [if_neg q20]
                  intro _
                  dsimp only
                  (repeat (first | with_reducible exact a0 | with_reducible apply done_Adv | with_reducible apply hyd_Adv | with_reducible apply fig_Adv | with_reducible apply car_Adv | with_reducible apply cel_Adv | with_reducible apply oR_Adv))
            · rw [if_neg q18]
              by_cases q21 : ((mT M) (mS M).toNatClampNeg) = 116
              · rw [if_pos q21]
                by_cases q22 : ((h_X7_carSign (oS M ((mS M) + 1))).1) = (-1)
                · rw [if_pos q22]
                  exact fun z => absurd rfl z
                · rw [if_neg q22]
                  by_cases q23 : (f_X7_isParked (mR ((h_X7_carSign (oS M ((mS M) + 1))).2)) ((h_X7_carSign (oS M ((mS M) + 1))).1)) = 0
                  · rw [if_pos q23]
                    intro _
                    dsimp only
                    (repeat (first | with_reducible exact a0 | with_reducible apply done_Adv | with_reducible apply hyd_Adv | with_reducible apply fig_Adv | with_reducible apply car_Adv | with_reducible apply cel_Adv | with_reducible apply oR_Adv))
                  · rw [if_neg q23]
                    by_cases q24 : ((h_X7_goes (mR ((h_X7_carSign (oS M ((mS M) + 1))).2)) (((h_X7_carSign (oS M ((mS M) + 1))).1).toNatClampNeg) 4).1) < 0
                    · rw [if_pos q24]
                      intro _
                      dsimp only
                      (repeat (first | with_reducible exact a0 | with_reducible apply done_Adv | with_reducible apply hyd_Adv | with_reducible apply fig_Adv | with_reducible apply car_Adv | with_reducible apply cel_Adv | with_reducible apply oR_Adv))
                    · rw [if_neg q24]
                      intro _
                      dsimp only
                      (repeat (first | with_reducible exact a0 | with_reducible apply done_Adv | with_reducible apply hyd_Adv | with_reducible apply fig_Adv | with_reducible apply car_Adv | with_reducible apply cel_Adv | with_reducible apply oR_Adv))
              · rw [if_neg q21]
                exact fun z => absurd rfl z
theorem cmd_TI {M : Mo} (hTI : TI M) (hsz : sp M < zz M) (hn : ¬ (h_X7_readCommand M).1 = 0) : TI (h_X7_readCommand M).2 ∧ zz (h_X7_readCommand M).2 - sp (h_X7_readCommand M).2 < zz M - sp M := by
  have q := cmd_Adv hTI hsz hn
  have r := hTI.up hsz
  refine ⟨q.1, ?_⟩
  have a := q.1.2.2.2
  have c := q.2.1
  have d := q.2.2
  omega
