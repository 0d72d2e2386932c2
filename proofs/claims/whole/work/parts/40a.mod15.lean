def h_X7_readHydrant (M : Mo) : Int32 × Mo :=
  if ((h_X7_cellSign M 0).1) = (-1) then (0, (h_X7_cellSign M 0).2) else
  if (mS ((h_X7_cellSign M 0).2)) = (mZ ((h_X7_cellSign M 0).2)) then (0, (h_X7_cellSign M 0).2) else
  if ((mT ((h_X7_cellSign M 0).2)) (mS ((h_X7_cellSign M 0).2)).toNatClampNeg) = 43 then (if (f_X7_canHydrant (mR (oS ((h_X7_cellSign M 0).2) ((mS ((h_X7_cellSign M 0).2)) + 1))) ((h_X7_cellSign M 0).1) 1) = 0 then ((h_X7_done (oS ((h_X7_cellSign M 0).2) ((mS ((h_X7_cellSign M 0).2)) + 1)) 0).1, (h_X7_done (oS ((h_X7_cellSign M 0).2) ((mS ((h_X7_cellSign M 0).2)) + 1)) 0).2) else
    if ((h_X7_hydrantOn (mR (oS ((h_X7_cellSign M 0).2) ((mS ((h_X7_cellSign M 0).2)) + 1))) (((h_X7_cellSign M 0).1).toNatClampNeg) 1).1) < 0 then ((h_X7_done (oR (oS ((h_X7_cellSign M 0).2) ((mS ((h_X7_cellSign M 0).2)) + 1)) ((h_X7_hydrantOn (mR (oS ((h_X7_cellSign M 0).2) ((mS ((h_X7_cellSign M 0).2)) + 1))) (((h_X7_cellSign M 0).1).toNatClampNeg) 1).2)) 0).1, (h_X7_done (oR (oS ((h_X7_cellSign M 0).2) ((mS ((h_X7_cellSign M 0).2)) + 1)) ((h_X7_hydrantOn (mR (oS ((h_X7_cellSign M 0).2) ((mS ((h_X7_cellSign M 0).2)) + 1))) (((h_X7_cellSign M 0).1).toNatClampNeg) 1).2)) 0).2) else
    ((h_X7_done (oR (oS ((h_X7_cellSign M 0).2) ((mS ((h_X7_cellSign M 0).2)) + 1)) ((h_X7_hydrantOn (mR (oS ((h_X7_cellSign M 0).2) ((mS ((h_X7_cellSign M 0).2)) + 1))) (((h_X7_cellSign M 0).1).toNatClampNeg) 1).2)) 1).1, (h_X7_done (oR (oS ((h_X7_cellSign M 0).2) ((mS ((h_X7_cellSign M 0).2)) + 1)) ((h_X7_hydrantOn (mR (oS ((h_X7_cellSign M 0).2) ((mS ((h_X7_cellSign M 0).2)) + 1))) (((h_X7_cellSign M 0).1).toNatClampNeg) 1).2)) 1).2)) else
  if ((mT ((h_X7_cellSign M 0).2)) (mS ((h_X7_cellSign M 0).2)).toNatClampNeg) = 45 then (if (f_X7_canHydrant (mR (oS ((h_X7_cellSign M 0).2) ((mS ((h_X7_cellSign M 0).2)) + 1))) ((h_X7_cellSign M 0).1) 0) = 0 then ((h_X7_done (oS ((h_X7_cellSign M 0).2) ((mS ((h_X7_cellSign M 0).2)) + 1)) 0).1, (h_X7_done (oS ((h_X7_cellSign M 0).2) ((mS ((h_X7_cellSign M 0).2)) + 1)) 0).2) else
    if ((h_X7_hydrantOn (mR (oS ((h_X7_cellSign M 0).2) ((mS ((h_X7_cellSign M 0).2)) + 1))) (((h_X7_cellSign M 0).1).toNatClampNeg) 0).1) < 0 then ((h_X7_done (oR (oS ((h_X7_cellSign M 0).2) ((mS ((h_X7_cellSign M 0).2)) + 1)) ((h_X7_hydrantOn (mR (oS ((h_X7_cellSign M 0).2) ((mS ((h_X7_cellSign M 0).2)) + 1))) (((h_X7_cellSign M 0).1).toNatClampNeg) 0).2)) 0).1, (h_X7_done (oR (oS ((h_X7_cellSign M 0).2) ((mS ((h_X7_cellSign M 0).2)) + 1)) ((h_X7_hydrantOn (mR (oS ((h_X7_cellSign M 0).2) ((mS ((h_X7_cellSign M 0).2)) + 1))) (((h_X7_cellSign M 0).1).toNatClampNeg) 0).2)) 0).2) else
    ((h_X7_done (oR (oS ((h_X7_cellSign M 0).2) ((mS ((h_X7_cellSign M 0).2)) + 1)) ((h_X7_hydrantOn (mR (oS ((h_X7_cellSign M 0).2) ((mS ((h_X7_cellSign M 0).2)) + 1))) (((h_X7_cellSign M 0).1).toNatClampNeg) 0).2)) 1).1, (h_X7_done (oR (oS ((h_X7_cellSign M 0).2) ((mS ((h_X7_cellSign M 0).2)) + 1)) ((h_X7_hydrantOn (mR (oS ((h_X7_cellSign M 0).2) ((mS ((h_X7_cellSign M 0).2)) + 1))) (((h_X7_cellSign M 0).1).toNatClampNeg) 0).2)) 1).2)) else
  (0, (h_X7_cellSign M 0).2)
set_option maxHeartbeats 4000000 in
set_option maxRecDepth 100000 in
theorem c_X7_readHydrant (l : Launch) (G : GG) (b : Nat) (M : Mo) (hTI : TI M) (hRI : RI (mR M)) : Met l yX7_readHydrant wsX7_readHydrant ({ frames := 3, cells := 0, slots := 0, locals := 74 }) (PcH G [.ref b, .ref (b + 3)] (Md G b M)) (QM (some (.int ((h_X7_readHydrant M).1))) (Md G b ((h_X7_readHydrant M).2)) (blk b (b + 8))) 0 0 (blk b (b + 8)) := by
  refine metH (cc := cX7_readHydrant) (maxL := 4) (ret := (some .boolean)) (by decide) rfl ?_
  intro p e s m below meth cd hx hb hr hml hown hts hlocks hP hO
  have hin7 : ∀ w ∈ u_ws RX7 TX7 12, w ∈ wsX7_readHydrant := by decide +kernel
  have hf_7 := hts (.fieldLink RX7 7 "CurbCarsModel" "text" "[I") (by decide +kernel)
  have hf_134 := hts (.fieldLink RX7 134 "CurbCarsModel" "size" "I") (by decide +kernel)
  have hf_140 := hts (.fieldLink RX7 140 "CurbCarsModel" "spot" "I") (by decide +kernel)
  have hA : ∀ q, (blk b (b + 8)) q → (blk b (b + 8)) q := fun _ h => h
  have hS : va_S (blk b (b + 8)) s.heap s.heap [] := va_S.rf
  have hl := lv_entry ([.ref b, .ref (b + 3)]) (n := 4) (Nat.le_of_ble_eq_true rfl)
  rw [lg_entry_eq]
  generalize (lg_sl ([.ref b, .ref (b + 3)]) ++ List.replicate (4 - (lg_sl ([.ref b, .ref (b + 3)])).length) Slot.unset).toArray = ls at hl ⊢
  have hl : lv_has ls 4 [(0, .ref b), (1, .ref (b + 3))] := hl
  refine lv_aload_n hx hb dX7_readHydrant_0 rfl (lv_at hl 0 rfl) ?_
  refine lv_iconst (v := 0) hx hb dX7_readHydrant_1 (by decide) ?_
  refine cl_mi (rV (As := [.int 0]) (rest := []) ⟨hx, hb, hml, hown, hts⟩ (c_X7_cellSign l G b M 0 (by first | exact hTI | exact (hTI.up hsz).1 | (repeat (first | with_reducible exact hTI | with_reducible exact (hTI.up hsz).1 | with_reducible apply fig_TI | with_reducible apply car_TI | with_reducible apply cel_TI)))) (cwV 1 hts gX7_readHydrant_X7_cellSign rfl rfl rfl (by decide +kernel) ⟨Nat.le_of_ble_eq_true rfl, Nat.le_of_ble_eq_true rfl⟩) (md_recv hO hP) hP hO rfl hl.1 (Nat.le_of_ble_eq_true rfl) dX7_readHydrant_2 ⟨Nat.le_of_ble_eq_true rfl, Nat.le_of_ble_eq_true rfl⟩) hS hA (fun H locs hP1 hz hk hS => ?_)
  have hP : Md G b ((h_X7_cellSign M 0).2) H := hP1
  refine lv_istore_n (lv' := [(2, .int ((h_X7_cellSign M 0).1)), (0, .ref b), (1, .ref (b + 3))]) hx hb dX7_readHydrant_5 rfl hl (by decide) rfl (fun ls hl => ?_)
  refine lv_iload_n hx hb dX7_readHydrant_6 rfl (lv_at hl 0 rfl) ?_
  refine lv_iconst (v := -1) hx hb dX7_readHydrant_7 (by decide) ?_
  refine lv_icmp_eq (tgt := 50) hx hb dX7_readHydrant_8 (by decide) (fun c_1 => ?_) (fun c_1 => ?_)
  · refine lv_iconst (v := 0) hx hb dX7_readHydrant_50 (by decide) ?_
    have hE : h_X7_readHydrant M = (0, (h_X7_cellSign M 0).2) := (by rw [h_X7_readHydrant, if_pos c_1])
    have hE2 := snd_of hE
    exact W.zret (ty := .boolean) hx hb hr rfl (fun t ht hW => ⟨by rw [fst_of hE], by rw [ht, hE2]; exact hP, hS.F ht⟩) hS.2.2 dX7_readHydrant_51
  · refine lv_aload_n hx hb dX7_readHydrant_11 rfl (lv_at hl 1 rfl) ?_
    refine va_get (D := G.1) (ci := 5) (v := .int (mS ((h_X7_cellSign M 0).2))) (C := RX7) (T := TX7) (N := 12) hx hb hts hin7 hown hO.1 hP 0 rfl rfl 10 (by decide) hf_140 (fun _ h9 => h9) rfl dX7_readHydrant_12 ?_
    refine lv_aload_n hx hb dX7_readHydrant_15 rfl (lv_at hl 1 rfl) ?_
    refine va_get (D := G.1) (ci := 5) (v := .int (mZ ((h_X7_cellSign M 0).2))) (C := RX7) (T := TX7) (N := 12) hx hb hts hin7 hown hO.1 hP 0 rfl rfl 2 (by decide) hf_134 (fun _ h9 => h9) rfl dX7_readHydrant_16 ?_
    refine lv_icmp_eq (tgt := 50) hx hb dX7_readHydrant_19 (by decide) (fun c_2 => ?_) (fun c_2 => ?_)
    · refine lv_iconst (v := 0) hx hb dX7_readHydrant_50 (by decide) ?_
      have hE : h_X7_readHydrant M = (0, (h_X7_cellSign M 0).2) := (by rw [h_X7_readHydrant, if_neg c_1, if_pos c_2])
      have hE2 := snd_of hE
      exact W.zret (ty := .boolean) hx hb hr rfl (fun t ht hW => ⟨by rw [fst_of hE], by rw [ht, hE2]; exact hP, hS.F ht⟩) hS.2.2 dX7_readHydrant_51
    · refine lv_aload_n hx hb dX7_readHydrant_22 rfl (lv_at hl 1 rfl) ?_
      refine va_get (D := G.1) (ci := 5) (v := .ref (b + 1)) (C := RX7) (T := TX7) (N := 12) hx hb hts hin7 hown hO.1 hP 0 rfl rfl 1 (by decide) hf_7 (fun _ h9 => h9) rfl dX7_readHydrant_23 ?_
      refine lv_aload_n hx hb dX7_readHydrant_26 rfl (lv_at hl 1 rfl) ?_
      refine va_get (D := G.1) (ci := 5) (v := .int (mS ((h_X7_cellSign M 0).2))) (C := RX7) (T := TX7) (N := 12) hx hb hts hin7 hown hO.1 hP 0 rfl rfl 10 (by decide) hf_140 (fun _ h9 => h9) rfl dX7_readHydrant_27 ?_
      refine va_iald hx hb hO.1 hP 1 0 rfl rfl (TI.rd (by first | exact hTI | exact (hTI.up hsz).1 | (repeat (first | with_reducible exact hTI | with_reducible exact (hTI.up hsz).1 | with_reducible apply fig_TI | with_reducible apply car_TI | with_reducible apply cel_TI))) (TI.ne (by first | exact hTI | exact (hTI.up hsz).1 | (repeat (first | with_reducible exact hTI | with_reducible exact (hTI.up hsz).1 | with_reducible apply fig_TI | with_reducible apply car_TI | with_reducible apply cel_TI))) (by first | with_reducible assumption | assumption))) dX7_readHydrant_30 ?_
      refine lv_bipush (v := 43) hx hb dX7_readHydrant_31 (by decide) ?_
      refine lv_icmp_eq (tgt := 52) hx hb dX7_readHydrant_33 (by decide) (fun c_3 => ?_) (fun c_3 => ?_)
      · refine lv_aload_n hx hb dX7_readHydrant_52 rfl (lv_at hl 1 rfl) ?_
        refine va_get (D := G.1) (ci := 5) (v := .ref (b + 1)) (C := RX7) (T := TX7) (N := 12) hx hb hts hin7 hown hO.1 hP 0 rfl rfl 1 (by decide) hf_7 (fun _ h9 => h9) rfl dX7_readHydrant_53 ?_
        refine lv_aload_n hx hb dX7_readHydrant_56 rfl (lv_at hl 1 rfl) ?_
        refine va_get (D := G.1) (ci := 5) (v := .int (mS ((h_X7_cellSign M 0).2))) (C := RX7) (T := TX7) (N := 12) hx hb hts hin7 hown hO.1 hP 0 rfl rfl 10 (by decide) hf_140 (fun _ h9 => h9) rfl dX7_readHydrant_57 ?_
        refine va_iald hx hb hO.1 hP 1 0 rfl rfl (TI.rd (by first | exact hTI | exact (hTI.up hsz).1 | (repeat (first | with_reducible exact hTI | with_reducible exact (hTI.up hsz).1 | with_reducible apply fig_TI | with_reducible apply car_TI | with_reducible apply cel_TI))) (TI.ne (by first | exact hTI | exact (hTI.up hsz).1 | (repeat (first | with_reducible exact hTI | with_reducible exact (hTI.up hsz).1 | with_reducible apply fig_TI | with_reducible apply car_TI | with_reducible apply cel_TI))) (by first | with_reducible assumption | assumption))) dX7_readHydrant_60 ?_
        refine lv_bipush (v := 43) hx hb dX7_readHydrant_61 (by decide) ?_
        refine lv_icmp_ne (tgt := 70) hx hb dX7_readHydrant_63 (by decide) (fun c_4 => ?_) (fun c_4 => ?_)
        · exact absurd c_3 c_4
        · refine lv_iconst (v := 1) hx hb dX7_readHydrant_66 (by decide) ?_
          refine lv_goto (tgt := 71) hx hb dX7_readHydrant_67 (by decide) ?_
          refine lv_istore_n (lv' := [(3, .int 1), (2, .int ((h_X7_cellSign M 0).1)), (0, .ref b), (1, .ref (b + 3))]) hx hb dX7_readHydrant_71 rfl hl (by decide) rfl (fun ls hl => ?_)
          refine lv_aload_n hx hb dX7_readHydrant_72 rfl (lv_at hl 2 rfl) ?_
          refine lv_dup hx hb dX7_readHydrant_73 rfl ?_
          refine va_get (D := G.1) (ci := 5) (v := .int (mS ((h_X7_cellSign M 0).2))) (C := RX7) (T := TX7) (N := 12) hx hb hts hin7 hown hO.1 hP 0 rfl rfl 10 (by decide) hf_140 (fun _ h9 => h9) rfl dX7_readHydrant_74 ?_
          refine lv_iconst (v := 1) hx hb dX7_readHydrant_77 (by decide) ?_
          refine lv_iadd hx hb dX7_readHydrant_78 ?_
          refine va_put (D := G.1) (ci := 5) (v := .int ((mS ((h_X7_cellSign M 0).2)) + 1)) (ty := .int) (C := RX7) (T := TX7) (N := 12) hx hb hts hin7 tyX7 tyX7_ok nmX7 hown hO.1 hP (md_D b ((h_X7_cellSign M 0).2) hA) hS 0 rfl rfl 10 (by decide) hf_140 (fun _ h9 => h9) rfl (by decide +kernel) rfl rfl (Nat.le_of_ble_eq_true rfl) dX7_readHydrant_79 (fun H locs hP hD hS => ?_)
          have hP : Md G b (oS ((h_X7_cellSign M 0).2) ((mS ((h_X7_cellSign M 0).2)) + 1)) H := md_pS hP
          refine lv_aload_n hx hb dX7_readHydrant_82 rfl (lv_at hl 2 rfl) ?_
          refine lv_aload_n hx hb dX7_readHydrant_83 rfl (lv_at hl 3 rfl) ?_
          refine lv_iload_n hx hb dX7_readHydrant_84 rfl (lv_at hl 1 rfl) ?_
          refine lv_iload_n hx hb dX7_readHydrant_85 rfl (lv_at hl 0 rfl) ?_
          refine cl_pi (rS (As := [.ref (b + 3), .int ((h_X7_cellSign M 0).1), .int 1]) (rest := [.ref b]) ⟨hx, hb, hml, hown, hts⟩ (c_X7_canHydrant l G (b + 3) (mR (oS ((h_X7_cellSign M 0).2) ((mS ((h_X7_cellSign M 0).2)) + 1))) ((h_X7_cellSign M 0).1) 1) (va_cwS 3 hts gX7_readHydrant_X7_canHydrant rfl rfl rfl (by decide +kernel) ⟨Nat.le_of_ble_eq_true rfl, Nat.le_of_ble_eq_true rfl⟩) (va_P.sub hP [3] rfl) hO rfl hl.1 (Nat.le_of_ble_eq_true rfl) dX7_readHydrant_86 ⟨Nat.le_of_ble_eq_true rfl, Nat.le_of_ble_eq_true rfl⟩) ?_
          refine lv_if_eq (tgt := 105) hx hb dX7_readHydrant_89 (by decide) (fun c_5 => ?_) (fun c_5 => ?_)
          · refine lv_iconst (v := 0) hx hb dX7_readHydrant_105 (by decide) ?_
            refine cl_mi (rV (As := [.int 0]) (rest := []) ⟨hx, hb, hml, hown, hts⟩ (c_X7_done l G b (oS ((h_X7_cellSign M 0).2) ((mS ((h_X7_cellSign M 0).2)) + 1)) 0) (cwV 1 hts gX7_readHydrant_X7_done rfl rfl rfl (by decide +kernel) ⟨Nat.le_of_ble_eq_true rfl, Nat.le_of_ble_eq_true rfl⟩) (md_recv hO hP) hP hO rfl hl.1 (Nat.le_of_ble_eq_true rfl) dX7_readHydrant_106 ⟨Nat.le_of_ble_eq_true rfl, Nat.le_of_ble_eq_true rfl⟩) hS hA (fun H locs hP1 hz hk hS => ?_)
            have hP : Md G b ((h_X7_done (oS ((h_X7_cellSign M 0).2) ((mS ((h_X7_cellSign M 0).2)) + 1)) 0).2) H := hP1
            have hE : h_X7_readHydrant M = ((h_X7_done (oS ((h_X7_cellSign M 0).2) ((mS ((h_X7_cellSign M 0).2)) + 1)) 0).1, (h_X7_done (oS ((h_X7_cellSign M 0).2) ((mS ((h_X7_cellSign M 0).2)) + 1)) 0).2) := (by rw [h_X7_readHydrant, if_neg c_1, if_neg c_2, if_pos c_3, if_pos c_5])
            have hE2 := snd_of hE
            exact W.zret (ty := .boolean) hx hb hr (nar_b (b_h_X7_done ..)) (fun t ht hW => ⟨by rw [fst_of hE], by rw [ht, hE2]; exact hP, hS.F ht⟩) hS.2.2 dX7_readHydrant_109
          · refine lv_aload_n hx hb dX7_readHydrant_92 rfl (lv_at hl 3 rfl) ?_
            refine lv_iload_n hx hb dX7_readHydrant_93 rfl (lv_at hl 1 rfl) ?_
            refine lv_iload_n hx hb dX7_readHydrant_94 rfl (lv_at hl 0 rfl) ?_
            refine cl_mi (rS (As := [.ref (b + 3), .int ((h_X7_cellSign M 0).1), .int 1]) (rest := [.ref b]) ⟨hx, hb, hml, hown, hts⟩ (c_X7_hydrantOn_raw l G (b + 3) (mR (oS ((h_X7_cellSign M 0).2) ((mS ((h_X7_cellSign M 0).2)) + 1))) ((h_X7_cellSign M 0).1) 1 (hyd_n (by first | with_reducible assumption | assumption))) (va_cwS 3 hts gX7_readHydrant_X7_hydrantOn rfl rfl rfl (by decide +kernel) ⟨Nat.le_of_ble_eq_true rfl, Nat.le_of_ble_eq_true rfl⟩) (va_P.sub hP [3] rfl) hO rfl hl.1 (Nat.le_of_ble_eq_true rfl) dX7_readHydrant_95 ⟨Nat.le_of_ble_eq_true rfl, Nat.le_of_ble_eq_true rfl⟩) hS (fun q h => hA q (by simp only [one, blk] at *; omega)) (fun H locs hP1 hz hk hS => ?_)
            have hP : Md G b (oR (oS ((h_X7_cellSign M 0).2) ((mS ((h_X7_cellSign M 0).2)) + 1)) ((h_X7_hydrantOn (mR (oS ((h_X7_cellSign M 0).2) ((mS ((h_X7_cellSign M 0).2)) + 1))) (((h_X7_cellSign M 0).1).toNatClampNeg) 1).2)) H := md_pR (mo_row 3 hP rfl hP1 hk)
            refine lv_if_lt (tgt := 105) hx hb dX7_readHydrant_98 (by decide) (fun c_6 => ?_) (fun c_6 => ?_)
            · refine lv_iconst (v := 0) hx hb dX7_readHydrant_105 (by decide) ?_
              refine cl_mi (rV (As := [.int 0]) (rest := []) ⟨hx, hb, hml, hown, hts⟩ (c_X7_done l G b (oR (oS ((h_X7_cellSign M 0).2) ((mS ((h_X7_cellSign M 0).2)) + 1)) ((h_X7_hydrantOn (mR (oS ((h_X7_cellSign M 0).2) ((mS ((h_X7_cellSign M 0).2)) + 1))) (((h_X7_cellSign M 0).1).toNatClampNeg) 1).2)) 0) (cwV 1 hts gX7_readHydrant_X7_done rfl rfl rfl (by decide +kernel) ⟨Nat.le_of_ble_eq_true rfl, Nat.le_of_ble_eq_true rfl⟩) (md_recv hO hP) hP hO rfl hl.1 (Nat.le_of_ble_eq_true rfl) dX7_readHydrant_106 ⟨Nat.le_of_ble_eq_true rfl, Nat.le_of_ble_eq_true rfl⟩) hS hA (fun H locs hP1 hz hk hS => ?_)
              have hP : Md G b ((h_X7_done (oR (oS ((h_X7_cellSign M 0).2) ((mS ((h_X7_cellSign M 0).2)) + 1)) ((h_X7_hydrantOn (mR (oS ((h_X7_cellSign M 0).2) ((mS ((h_X7_cellSign M 0).2)) + 1))) (((h_X7_cellSign M 0).1).toNatClampNeg) 1).2)) 0).2) H := hP1
              have hE : h_X7_readHydrant M = ((h_X7_done (oR (oS ((h_X7_cellSign M 0).2) ((mS ((h_X7_cellSign M 0).2)) + 1)) ((h_X7_hydrantOn (mR (oS ((h_X7_cellSign M 0).2) ((mS ((h_X7_cellSign M 0).2)) + 1))) (((h_X7_cellSign M 0).1).toNatClampNeg) 1).2)) 0).1, (h_X7_done (oR (oS ((h_X7_cellSign M 0).2) ((mS ((h_X7_cellSign M 0).2)) + 1)) ((h_X7_hydrantOn (mR (oS ((h_X7_cellSign M 0).2) ((mS ((h_X7_cellSign M 0).2)) + 1))) (((h_X7_cellSign M 0).1).toNatClampNeg) 1).2)) 0).2) := (by rw [h_X7_readHydrant, if_neg c_1, if_neg c_2, if_pos c_3, if_neg c_5, if_pos c_6])
              have hE2 := snd_of hE
              exact W.zret (ty := .boolean) hx hb hr (nar_b (b_h_X7_done ..)) (fun t ht hW => ⟨by rw [fst_of hE], by rw [ht, hE2]; exact hP, hS.F ht⟩) hS.2.2 dX7_readHydrant_109
            · refine lv_iconst (v := 1) hx hb dX7_readHydrant_101 (by decide) ?_
              refine lv_goto (tgt := 106) hx hb dX7_readHydrant_102 (by decide) ?_
              refine cl_mi (rV (As := [.int 1]) (rest := []) ⟨hx, hb, hml, hown, hts⟩ (c_X7_done l G b (oR (oS ((h_X7_cellSign M 0).2) ((mS ((h_X7_cellSign M 0).2)) + 1)) ((h_X7_hydrantOn (mR (oS ((h_X7_cellSign M 0).2) ((mS ((h_X7_cellSign M 0).2)) + 1))) (((h_X7_cellSign M 0).1).toNatClampNeg) 1).2)) 1) (cwV 1 hts gX7_readHydrant_X7_done rfl rfl rfl (by decide +kernel) ⟨Nat.le_of_ble_eq_true rfl, Nat.le_of_ble_eq_true rfl⟩) (md_recv hO hP) hP hO rfl hl.1 (Nat.le_of_ble_eq_true rfl) dX7_readHydrant_106 ⟨Nat.le_of_ble_eq_true rfl, Nat.le_of_ble_eq_true rfl⟩) hS hA (fun H locs hP1 hz hk hS => ?_)
              have hP : Md G b ((h_X7_done (oR (oS ((h_X7_cellSign M 0).2) ((mS ((h_X7_cellSign M 0).2)) + 1)) ((h_X7_hydrantOn (mR (oS ((h_X7_cellSign M 0).2) ((mS ((h_X7_cellSign M 0).2)) + 1))) (((h_X7_cellSign M 0).1).toNatClampNeg) 1).2)) 1).2) H := hP1
              have hE : h_X7_readHydrant M = ((h_X7_done (oR (oS ((h_X7_cellSign M 0).2) ((mS ((h_X7_cellSign M 0).2)) + 1)) ((h_X7_hydrantOn (mR (oS ((h_X7_cellSign M 0).2) ((mS ((h_X7_cellSign M 0).2)) + 1))) (((h_X7_cellSign M 0).1).toNatClampNeg) 1).2)) 1).1, (h_X7_done (oR (oS ((h_X7_cellSign M 0).2) ((mS ((h_X7_cellSign M 0).2)) + 1)) ((h_X7_hydrantOn (mR (oS ((h_X7_cellSign M 0).2) ((mS ((h_X7_cellSign M 0).2)) + 1))) (((h_X7_cellSign M 0).1).toNatClampNeg) 1).2)) 1).2) := (by rw [h_X7_readHydrant, if_neg c_1, if_neg c_2, if_pos c_3, if_neg c_5, if_neg c_6])
              have hE2 := snd_of hE
              exact W.zret (ty := .boolean) hx hb hr (nar_b (b_h_X7_done ..)) (fun t ht hW => ⟨by rw [fst_of hE], by rw [ht, hE2]; exact hP, hS.F ht⟩) hS.2.2 dX7_readHydrant_109
      · refine lv_aload_n hx hb dX7_readHydrant_36 rfl (lv_at hl 1 rfl) ?_
        refine va_get (D := G.1) (ci := 5) (v := .ref (b + 1)) (C := RX7) (T := TX7) (N := 12) hx hb hts hin7 hown hO.1 hP 0 rfl rfl 1 (by decide) hf_7 (fun _ h9 => h9) rfl dX7_readHydrant_37 ?_
        refine lv_aload_n hx hb dX7_readHydrant_40 rfl (lv_at hl 1 rfl) ?_
        refine va_get (D := G.1) (ci := 5) (v := .int (mS ((h_X7_cellSign M 0).2))) (C := RX7) (T := TX7) (N := 12) hx hb hts hin7 hown hO.1 hP 0 rfl rfl 10 (by decide) hf_140 (fun _ h9 => h9) rfl dX7_readHydrant_41 ?_
        refine va_iald hx hb hO.1 hP 1 0 rfl rfl (TI.rd (by first | exact hTI | exact (hTI.up hsz).1 | (repeat (first | with_reducible exact hTI | with_reducible exact (hTI.up hsz).1 | with_reducible apply fig_TI | with_reducible apply car_TI | with_reducible apply cel_TI))) (TI.ne (by first | exact hTI | exact (hTI.up hsz).1 | (repeat (first | with_reducible exact hTI | with_reducible exact (hTI.up hsz).1 | with_reducible apply fig_TI | with_reducible apply car_TI | with_reducible apply cel_TI))) (by first | with_reducible assumption | assumption))) dX7_readHydrant_44 ?_
        refine lv_bipush (v := 45) hx hb dX7_readHydrant_45 (by decide) ?_
        refine lv_icmp_eq (tgt := 52) hx hb dX7_readHydrant_47 (by decide) (fun c_7 => ?_) (fun c_7 => ?_)
        · refine lv_aload_n hx hb dX7_readHydrant_52 rfl (lv_at hl 1 rfl) ?_
          refine va_get (D := G.1) (ci := 5) (v := .ref (b + 1)) (C := RX7) (T := TX7) (N := 12) hx hb hts hin7 hown hO.1 hP 0 rfl rfl 1 (by decide) hf_7 (fun _ h9 => h9) rfl dX7_readHydrant_53 ?_
          refine lv_aload_n hx hb dX7_readHydrant_56 rfl (lv_at hl 1 rfl) ?_
          refine va_get (D := G.1) (ci := 5) (v := .int (mS ((h_X7_cellSign M 0).2))) (C := RX7) (T := TX7) (N := 12) hx hb hts hin7 hown hO.1 hP 0 rfl rfl 10 (by decide) hf_140 (fun _ h9 => h9) rfl dX7_readHydrant_57 ?_
          refine va_iald hx hb hO.1 hP 1 0 rfl rfl (TI.rd (by first | exact hTI | exact (hTI.up hsz).1 | (repeat (first | with_reducible exact hTI | with_reducible exact (hTI.up hsz).1 | with_reducible apply fig_TI | with_reducible apply car_TI | with_reducible apply cel_TI))) (TI.ne (by first | exact hTI | exact (hTI.up hsz).1 | (repeat (first | with_reducible exact hTI | with_reducible exact (hTI.up hsz).1 | with_reducible apply fig_TI | with_reducible apply car_TI | with_reducible apply cel_TI))) (by first | with_reducible assumption | assumption))) dX7_readHydrant_60 ?_
          refine lv_bipush (v := 43) hx hb dX7_readHydrant_61 (by decide) ?_
          refine lv_icmp_ne (tgt := 70) hx hb dX7_readHydrant_63 (by decide) (fun c_8 => ?_) (fun c_8 => ?_)
          · refine lv_iconst (v := 0) hx hb dX7_readHydrant_70 (by decide) ?_
            refine lv_istore_n (lv' := [(3, .int 0), (2, .int ((h_X7_cellSign M 0).1)), (0, .ref b), (1, .ref (b + 3))]) hx hb dX7_readHydrant_71 rfl hl (by decide) rfl (fun ls hl => ?_)
            refine lv_aload_n hx hb dX7_readHydrant_72 rfl (lv_at hl 2 rfl) ?_
            refine lv_dup hx hb dX7_readHydrant_73 rfl ?_
            refine va_get (D := G.1) (ci := 5) (v := .int (mS ((h_X7_cellSign M 0).2))) (C := RX7) (T := TX7) (N := 12) hx hb hts hin7 hown hO.1 hP 0 rfl rfl 10 (by decide) hf_140 (fun _ h9 => h9) rfl dX7_readHydrant_74 ?_
            refine lv_iconst (v := 1) hx hb dX7_readHydrant_77 (by decide) ?_
            refine lv_iadd hx hb dX7_readHydrant_78 ?_
            refine va_put (D := G.1) (ci := 5) (v := .int ((mS ((h_X7_cellSign M 0).2)) + 1)) (ty := .int) (C := RX7) (T := TX7) (N := 12) hx hb hts hin7 tyX7 tyX7_ok nmX7 hown hO.1 hP (md_D b ((h_X7_cellSign M 0).2) hA) hS 0 rfl rfl 10 (by decide) hf_140 (fun _ h9 => h9) rfl (by decide +kernel) rfl rfl (Nat.le_of_ble_eq_true rfl) dX7_readHydrant_79 (fun H locs hP hD hS => ?_)
            have hP : Md G b (oS ((h_X7_cellSign M 0).2) ((mS ((h_X7_cellSign M 0).2)) + 1)) H := md_pS hP
            refine lv_aload_n hx hb dX7_readHydrant_82 rfl (lv_at hl 2 rfl) ?_
            refine lv_aload_n hx hb dX7_readHydrant_83 rfl (lv_at hl 3 rfl) ?_
            refine lv_iload_n hx hb dX7_readHydrant_84 rfl (lv_at hl 1 rfl) ?_
            refine lv_iload_n hx hb dX7_readHydrant_85 rfl (lv_at hl 0 rfl) ?_
            refine cl_pi (rS (As := [.ref (b + 3), .int ((h_X7_cellSign M 0).1), .int 0]) (rest := [.ref b]) ⟨hx, hb, hml, hown, hts⟩ (c_X7_canHydrant l G (b + 3) (mR (oS ((h_X7_cellSign M 0).2) ((mS ((h_X7_cellSign M 0).2)) + 1))) ((h_X7_cellSign M 0).1) 0) (va_cwS 3 hts gX7_readHydrant_X7_canHydrant rfl rfl rfl (by decide +kernel) ⟨Nat.le_of_ble_eq_true rfl, Nat.le_of_ble_eq_true rfl⟩) (va_P.sub hP [3] rfl) hO rfl hl.1 (Nat.le_of_ble_eq_true rfl) dX7_readHydrant_86 ⟨Nat.le_of_ble_eq_true rfl, Nat.le_of_ble_eq_true rfl⟩) ?_
            refine lv_if_eq (tgt := 105) hx hb dX7_readHydrant_89 (by decide) (fun c_9 => ?_) (fun c_9 => ?_)
            · refine lv_iconst (v := 0) hx hb dX7_readHydrant_105 (by decide) ?_
              refine cl_mi (rV (As := [.int 0]) (rest := []) ⟨hx, hb, hml, hown, hts⟩ (c_X7_done l G b (oS ((h_X7_cellSign M 0).2) ((mS ((h_X7_cellSign M 0).2)) + 1)) 0) (cwV 1 hts gX7_readHydrant_X7_done rfl rfl rfl (by decide +kernel) ⟨Nat.le_of_ble_eq_true rfl, Nat.le_of_ble_eq_true rfl⟩) (md_recv hO hP) hP hO rfl hl.1 (Nat.le_of_ble_eq_true rfl) dX7_readHydrant_106 ⟨Nat.le_of_ble_eq_true rfl, Nat.le_of_ble_eq_true rfl⟩) hS hA (fun H locs hP1 hz hk hS => ?_)
              have hP : Md G b ((h_X7_done (oS ((h_X7_cellSign M 0).2) ((mS ((h_X7_cellSign M 0).2)) + 1)) 0).2) H := hP1
              have hE : h_X7_readHydrant M = ((h_X7_done (oS ((h_X7_cellSign M 0).2) ((mS ((h_X7_cellSign M 0).2)) + 1)) 0).1, (h_X7_done (oS ((h_X7_cellSign M 0).2) ((mS ((h_X7_cellSign M 0).2)) + 1)) 0).2) := (by rw [h_X7_readHydrant, if_neg c_1, if_neg c_2, if_neg c_3, if_pos c_7, if_pos c_9])
              have hE2 := snd_of hE
              exact W.zret (ty := .boolean) hx hb hr (nar_b (b_h_X7_done ..)) (fun t ht hW => ⟨by rw [fst_of hE], by rw [ht, hE2]; exact hP, hS.F ht⟩) hS.2.2 dX7_readHydrant_109
            · refine lv_aload_n hx hb dX7_readHydrant_92 rfl (lv_at hl 3 rfl) ?_
              refine lv_iload_n hx hb dX7_readHydrant_93 rfl (lv_at hl 1 rfl) ?_
              refine lv_iload_n hx hb dX7_readHydrant_94 rfl (lv_at hl 0 rfl) ?_
              refine cl_mi (rS (As := [.ref (b + 3), .int ((h_X7_cellSign M 0).1), .int 0]) (rest := [.ref b]) ⟨hx, hb, hml, hown, hts⟩ (c_X7_hydrantOn_raw l G (b + 3) (mR (oS ((h_X7_cellSign M 0).2) ((mS ((h_X7_cellSign M 0).2)) + 1))) ((h_X7_cellSign M 0).1) 0 (hyd_n (by first | with_reducible assumption | assumption))) (va_cwS 3 hts gX7_readHydrant_X7_hydrantOn rfl rfl rfl (by decide +kernel) ⟨Nat.le_of_ble_eq_true rfl, Nat.le_of_ble_eq_true rfl⟩) (va_P.sub hP [3] rfl) hO rfl hl.1 (Nat.le_of_ble_eq_true rfl) dX7_readHydrant_95 ⟨Nat.le_of_ble_eq_true rfl, Nat.le_of_ble_eq_true rfl⟩) hS (fun q h => hA q (by simp only [one, blk] at *; omega)) (fun H locs hP1 hz hk hS => ?_)
              have hP : Md G b (oR (oS ((h_X7_cellSign M 0).2) ((mS ((h_X7_cellSign M 0).2)) + 1)) ((h_X7_hydrantOn (mR (oS ((h_X7_cellSign M 0).2) ((mS ((h_X7_cellSign M 0).2)) + 1))) (((h_X7_cellSign M 0).1).toNatClampNeg) 0).2)) H := md_pR (mo_row 3 hP rfl hP1 hk)
              refine lv_if_lt (tgt := 105) hx hb dX7_readHydrant_98 (by decide) (fun c_10 => ?_) (fun c_10 => ?_)
              · refine lv_iconst (v := 0) hx hb dX7_readHydrant_105 (by decide) ?_
                refine cl_mi (rV (As := [.int 0]) (rest := []) ⟨hx, hb, hml, hown, hts⟩ (c_X7_done l G b (oR (oS ((h_X7_cellSign M 0).2) ((mS ((h_X7_cellSign M 0).2)) + 1)) ((h_X7_hydrantOn (mR (oS ((h_X7_cellSign M 0).2) ((mS ((h_X7_cellSign M 0).2)) + 1))) (((h_X7_cellSign M 0).1).toNatClampNeg) 0).2)) 0) (cwV 1 hts gX7_readHydrant_X7_done rfl rfl rfl (by decide +kernel) ⟨Nat.le_of_ble_eq_true rfl, Nat.le_of_ble_eq_true rfl⟩) (md_recv hO hP) hP hO rfl hl.1 (Nat.le_of_ble_eq_true rfl) dX7_readHydrant_106 ⟨Nat.le_of_ble_eq_true rfl, Nat.le_of_ble_eq_true rfl⟩) hS hA (fun H locs hP1 hz hk hS => ?_)
                have hP : Md G b ((h_X7_done (oR (oS ((h_X7_cellSign M 0).2) ((mS ((h_X7_cellSign M 0).2)) + 1)) ((h_X7_hydrantOn (mR (oS ((h_X7_cellSign M 0).2) ((mS ((h_X7_cellSign M 0).2)) + 1))) (((h_X7_cellSign M 0).1).toNatClampNeg) 0).2)) 0).2) H := hP1
                have hE : h_X7_readHydrant M = ((h_X7_done (oR (oS ((h_X7_cellSign M 0).2) ((mS ((h_X7_cellSign M 0).2)) + 1)) ((h_X7_hydrantOn (mR (oS ((h_X7_cellSign M 0).2) ((mS ((h_X7_cellSign M 0).2)) + 1))) (((h_X7_cellSign M 0).1).toNatClampNeg) 0).2)) 0).1, (h_X7_done (oR (oS ((h_X7_cellSign M 0).2) ((mS ((h_X7_cellSign M 0).2)) + 1)) ((h_X7_hydrantOn (mR (oS ((h_X7_cellSign M 0).2) ((mS ((h_X7_cellSign M 0).2)) + 1))) (((h_X7_cellSign M 0).1).toNatClampNeg) 0).2)) 0).2) := (by rw [h_X7_readHydrant, if_neg c_1, if_neg c_2, if_neg c_3, if_pos c_7, if_neg c_9, if_pos c_10])
                have hE2 := snd_of hE
                exact W.zret (ty := .boolean) hx hb hr (nar_b (b_h_X7_done ..)) (fun t ht hW => ⟨by rw [fst_of hE], by rw [ht, hE2]; exact hP, hS.F ht⟩) hS.2.2 dX7_readHydrant_109
              · refine lv_iconst (v := 1) hx hb dX7_readHydrant_101 (by decide) ?_
                refine lv_goto (tgt := 106) hx hb dX7_readHydrant_102 (by decide) ?_
                refine cl_mi (rV (As := [.int 1]) (rest := []) ⟨hx, hb, hml, hown, hts⟩ (c_X7_done l G b (oR (oS ((h_X7_cellSign M 0).2) ((mS ((h_X7_cellSign M 0).2)) + 1)) ((h_X7_hydrantOn (mR (oS ((h_X7_cellSign M 0).2) ((mS ((h_X7_cellSign M 0).2)) + 1))) (((h_X7_cellSign M 0).1).toNatClampNeg) 0).2)) 1) (cwV 1 hts gX7_readHydrant_X7_done rfl rfl rfl (by decide +kernel) ⟨Nat.le_of_ble_eq_true rfl, Nat.le_of_ble_eq_true rfl⟩) (md_recv hO hP) hP hO rfl hl.1 (Nat.le_of_ble_eq_true rfl) dX7_readHydrant_106 ⟨Nat.le_of_ble_eq_true rfl, Nat.le_of_ble_eq_true rfl⟩) hS hA (fun H locs hP1 hz hk hS => ?_)
                have hP : Md G b ((h_X7_done (oR (oS ((h_X7_cellSign M 0).2) ((mS ((h_X7_cellSign M 0).2)) + 1)) ((h_X7_hydrantOn (mR (oS ((h_X7_cellSign M 0).2) ((mS ((h_X7_cellSign M 0).2)) + 1))) (((h_X7_cellSign M 0).1).toNatClampNeg) 0).2)) 1).2) H := hP1
                have hE : h_X7_readHydrant M = ((h_X7_done (oR (oS ((h_X7_cellSign M 0).2) ((mS ((h_X7_cellSign M 0).2)) + 1)) ((h_X7_hydrantOn (mR (oS ((h_X7_cellSign M 0).2) ((mS ((h_X7_cellSign M 0).2)) + 1))) (((h_X7_cellSign M 0).1).toNatClampNeg) 0).2)) 1).1, (h_X7_done (oR (oS ((h_X7_cellSign M 0).2) ((mS ((h_X7_cellSign M 0).2)) + 1)) ((h_X7_hydrantOn (mR (oS ((h_X7_cellSign M 0).2) ((mS ((h_X7_cellSign M 0).2)) + 1))) (((h_X7_cellSign M 0).1).toNatClampNeg) 0).2)) 1).2) := (by rw [h_X7_readHydrant, if_neg c_1, if_neg c_2, if_neg c_3, if_pos c_7, if_neg c_9, if_neg c_10])
                have hE2 := snd_of hE
                exact W.zret (ty := .boolean) hx hb hr (nar_b (b_h_X7_done ..)) (fun t ht hW => ⟨by rw [fst_of hE], by rw [ht, hE2]; exact hP, hS.F ht⟩) hS.2.2 dX7_readHydrant_109
          · exact absurd c_8 c_3
        · refine lv_iconst (v := 0) hx hb dX7_readHydrant_50 (by decide) ?_
          have hE : h_X7_readHydrant M = (0, (h_X7_cellSign M 0).2) := (by rw [h_X7_readHydrant, if_neg c_1, if_neg c_2, if_neg c_3, if_neg c_7])
          have hE2 := snd_of hE
          exact W.zret (ty := .boolean) hx hb hr rfl (fun t ht hW => ⟨by rw [fst_of hE], by rw [ht, hE2]; exact hP, hS.F ht⟩) hS.2.2 dX7_readHydrant_51

theorem b_h_X7_readHydrant (M : Mo) : (h_X7_readHydrant M).1 = 0 ∨ (h_X7_readHydrant M).1 = 1 := by
  unfold h_X7_readHydrant
  repeat' split
  all_goals first | exact Or.inl rfl | exact Or.inr rfl

theorem done_R (M : Mo) (is : Int32) : mR (h_X7_done M is).2 = mR M := by
  rw [h_X7_done]
  repeat' split
  all_goals rfl
theorem done_Adv {M M' : Mo} {is : Int32} (h : Adv M M') : Adv M (h_X7_done M' is).2 := by
  rw [h_X7_done]
  repeat' split
  all_goals exact h.o rfl rfl
theorem oR_Adv {M M' : Mo} {g : Rw} (h : Adv M M') : Adv M (oR M' g) := h.o rfl rfl
theorem up_Adv {M M' : Mo} (h : Adv M M') (hn : ¬ mS M' = mZ M') : Adv M (oS M' (mS M' + 1)) := by
  have q := h.1.up (h.1.ne hn)
  exact ⟨q.1, by have := h.2.1; omega, by rw [q.2.2]; exact h.2.2⟩
theorem done_RI {M : Mo} {is : Int32} (h : RI (mR M)) : RI (mR (h_X7_done M is).2) := by
  rw [done_R]
  exact h
theorem fig_RI {M : Mo} {ah di lo hi : Int32} (h : RI (mR M)) : RI (mR (h_X7_figures M ah di lo hi).2) := by
  rw [fig_R]
  exact h
theorem car_RI {M : Mo} (h : RI (mR M)) : RI (mR (h_X7_carSign M).2) := by
  rw [car_R]
  exact h
theorem cel_RI {M : Mo} {ah : Int32} (h : RI (mR M)) : RI (mR (h_X7_cellSign M ah).2) := by
  rw [cel_R]
  exact h
theorem RI_hydq {g : Rw} {x on on' : Int32} (h : RI g) (hc : ¬ f_X7_canHydrant g x on = 0) : RI (h_X7_hydrantOn g x.toNatClampNeg on').2 := by
  obtain ⟨j, hj, rfl⟩ := hyd_n hc
  rw [nI_clamp (by omega)]
  exact RI_hyd h hj _

theorem hyd_Adv {M M' : Mo} (h : Adv M M') : Adv M (h_X7_readHydrant M').2 := by
  have h1 : Adv M (h_X7_cellSign M' 0).2 := cel_Adv h
  rw [h_X7_readHydrant]
  by_cases q1 : ((h_X7_cellSign M' 0).1) = (-1)
  · rw [if_pos q1]
    exact h1
  · rw [if_neg q1]
    by_cases q2 : (mS ((h_X7_cellSign M' 0).2)) = (mZ ((h_X7_cellSign M' 0).2))
    · rw [if_pos q2]
      exact h1
    · rw [if_neg q2]
      by_cases q3 : ((mT ((h_X7_cellSign M' 0).2)) (mS ((h_X7_cellSign M' 0).2)).toNatClampNeg) = 43
      · rw [if_pos q3]
        by_cases q4 : (f_X7_canHydrant (mR (oS ((h_X7_cellSign M' 0).2) ((mS ((h_X7_cellSign M' 0).2)) + 1))) ((h_X7_cellSign M' 0).1) 1) = 0
        · rw [if_pos q4]
          exact done_Adv (up_Adv h1 q2)
        · rw [if_neg q4]
          by_cases q5 : ((h_X7_hydrantOn (mR (oS ((h_X7_cellSign M' 0).2) ((mS ((h_X7_cellSign M' 0).2)) + 1))) (((h_X7_cellSign M' 0).1).toNatClampNeg) 1).1) < 0
          · rw [if_pos q5]
            exact done_Adv (oR_Adv (up_Adv h1 q2))
          · rw [if_neg q5]
            exact done_Adv (oR_Adv (up_Adv h1 q2))
      · rw [if_neg q3]
        by_cases q6 : ((mT ((h_X7_cellSign M' 0).2)) (mS ((h_X7_cellSign M' 0).2)).toNatClampNeg) = 45
        · rw [if_pos q6]
          by_cases q7 : (f_X7_canHydrant (mR (oS ((h_X7_cellSign M' 0).2) ((mS ((h_X7_cellSign M' 0).2)) + 1))) ((h_X7_cellSign M' 0).1) 0) = 0
          · rw [if_pos q7]
            exact done_Adv (up_Adv h1 q2)
          · rw [if_neg q7]
            by_cases q8 : ((h_X7_hydrantOn (mR (oS ((h_X7_cellSign M' 0).2) ((mS ((h_X7_cellSign M' 0).2)) + 1))) (((h_X7_cellSign M' 0).1).toNatClampNeg) 0).1) < 0
            · rw [if_pos q8]
              exact done_Adv (oR_Adv (up_Adv h1 q2))
            · rw [if_neg q8]
              exact done_Adv (oR_Adv (up_Adv h1 q2))
        · rw [if_neg q6]
          exact h1
theorem hyd_RI {M : Mo} (h : RI (mR M)) : RI (mR (h_X7_readHydrant M).2) := by
  have h1 : RI (mR (h_X7_cellSign M 0).2) := cel_RI h
  rw [h_X7_readHydrant]
  by_cases q1 : ((h_X7_cellSign M 0).1) = (-1)
  · rw [if_pos q1]
    exact h1
  · rw [if_neg q1]
    by_cases q2 : (mS ((h_X7_cellSign M 0).2)) = (mZ ((h_X7_cellSign M 0).2))
    · rw [if_pos q2]
      exact h1
    · rw [if_neg q2]
      by_cases q3 : ((mT ((h_X7_cellSign M 0).2)) (mS ((h_X7_cellSign M 0).2)).toNatClampNeg) = 43
      · rw [if_pos q3]
        by_cases q4 : (f_X7_canHydrant (mR (oS ((h_X7_cellSign M 0).2) ((mS ((h_X7_cellSign M 0).2)) + 1))) ((h_X7_cellSign M 0).1) 1) = 0
        · rw [if_pos q4]
          exact done_RI h1
        · rw [if_neg q4]
          by_cases q5 : ((h_X7_hydrantOn (mR (oS ((h_X7_cellSign M 0).2) ((mS ((h_X7_cellSign M 0).2)) + 1))) (((h_X7_cellSign M 0).1).toNatClampNeg) 1).1) < 0
          · rw [if_pos q5]
            exact done_RI (RI_oR (RI_hydq (g := mR (h_X7_cellSign M 0).2) h1 (by first | exact q4 | exact q7)))
          · rw [if_neg q5]
            exact done_RI (RI_oR (RI_hydq (g := mR (h_X7_cellSign M 0).2) h1 (by first | exact q4 | exact q7)))
      · rw [if_neg q3]
        by_cases q6 : ((mT ((h_X7_cellSign M 0).2)) (mS ((h_X7_cellSign M 0).2)).toNatClampNeg) = 45
        · rw [if_pos q6]
          by_cases q7 : (f_X7_canHydrant (mR (oS ((h_X7_cellSign M 0).2) ((mS ((h_X7_cellSign M 0).2)) + 1))) ((h_X7_cellSign M 0).1) 0) = 0
          · rw [if_pos q7]
            exact done_RI h1
          · rw [if_neg q7]
            by_cases q8 : ((h_X7_hydrantOn (mR (oS ((h_X7_cellSign M 0).2) ((mS ((h_X7_cellSign M 0).2)) + 1))) (((h_X7_cellSign M 0).1).toNatClampNeg) 0).1) < 0
            · rw [if_pos q8]
              exact done_RI (RI_oR (RI_hydq (g := mR (h_X7_cellSign M 0).2) h1 (by first | exact q4 | exact q7)))
            · rw [if_neg q8]
              exact done_RI (RI_oR (RI_hydq (g := mR (h_X7_cellSign M 0).2) h1 (by first | exact q4 | exact q7)))
        · rw [if_neg q6]
          exact h1
theorem RI.R3 {g : Rw} (h : RI g) : ∃ r, r ≤ 4 ∧ g 3 = nI r := h.2.1
