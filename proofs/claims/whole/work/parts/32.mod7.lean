theorem c_X7_copyState_raw (l : Launch) (G : GG) (b w0 : Nat) (f : Rw) (a w1 : Nat) (g : Rw) (i0 i1 : Int32) (hi0 : ∃ j, j + 327 ≤ w0 ∧ i0 = nI j) (hi1 : ∃ j, j + 327 ≤ w1 ∧ i1 = nI j) (hw0 : w0 < 10000) (hw1 : w1 < 10000) (hd : b ≠ a) : Met l yX7_copyState wsX7_copyState ({ frames := 0, cells := 0, slots := 0, locals := 0 }) (PcH G [.ref b, .int i0, .ref a, .int i1] (Two2 G b w0 f a w1 g)) (QM none (Two2 G b w0 f a w1 (h_X7_copyState f g i0.toNatClampNeg i1.toNatClampNeg)) (two b a)) 0 0 (two b a) := by
  obtain ⟨j, hj, rfl⟩ := hi0
  obtain ⟨u, hu, rfl⟩ := hi1
  rw [nI_clamp (by omega), nI_clamp (by omega)]
  exact c_X7_copyState l G b w0 f a w1 g j u hj hu hw0 hw1 hd
theorem slot_n {x : Int32} (h : ¬ f_X7_in x.toInt64 0 1 = 0) : ∃ j, j ≤ 1 ∧ x = nI j := in_nat (a := 1) (by decide) (by decide) h
theorem slot_in {x : Int32} (h : ¬ f_X7_in x.toInt64 0 1 = 0) : vp_in x 2 := by
  obtain ⟨j, hj, rfl⟩ := slot_n h
  exact vp_in_nI (by omega) (by omega)
theorem slot_ix {x : Int32} (h : ¬ f_X7_in x.toInt64 0 1 = 0) : ∃ j, j + 327 ≤ 654 ∧ 327 * x = nI j := by
  obtain ⟨j, hj, rfl⟩ := slot_n h
  exact ⟨327 * j, by omega, pk_mul 327 j⟩
theorem len_ne {x : Int32} (h : ¬ f_X7_isLength x = 0) : ¬ x = 0 := by
  rw [f_X7_isLength] at h
  have h1 := in_ne h
  rw [i64, show (2 : Int64).toInt = 2 by decide, show (8 : Int64).toInt = 8 by decide] at h1
  intro z
  rw [z, Int32.toInt_zero] at h1
  omega

def h_X7_fits (M : Mo) (len : Int32) (way : Int32) : Int32 × Mo :=
  if (f_X7_isLength len) = 0 then (0, (h_X7_refused M 1).2) else
  if (f_X7_in way.toInt64 0 1) = 0 then (0, (h_X7_refused M 1).2) else
  (f_X7_fitsIn (mN ((h_X7_refused M 0).2)) len, (h_X7_refused M 0).2)
set_option maxHeartbeats 4000000 in
set_option maxRecDepth 100000 in
theorem c_X7_fits (l : Launch) (G : GG) (b : Nat) (M : Mo) (len : Int32) (way : Int32) : Met l yX7_fits wsX7_fits ({ frames := 3, cells := 0, slots := 0, locals := 67 }) (PcH G [.ref b, .int len, .int way] (Md G b M)) (QM (some (.int ((h_X7_fits M len way).1))) (Md G b ((h_X7_fits M len way).2)) (blk b (b + 8))) 0 0 (blk b (b + 8)) := by
  refine metH (cc := cX7_fits) (maxL := 3) (ret := (some .int)) (by decide) rfl ?_
  intro p e s m below meth cd hx hb hr hml hown hts hlocks hP hO
  have hin7 : ∀ w ∈ u_ws RX7 TX7 12, w ∈ wsX7_fits := by decide +kernel
  have hf_13 := hts (.fieldLink RX7 13 "CurbCarsModel" "now" "[I") (by decide +kernel)
  have hA : ∀ q, (blk b (b + 8)) q → (blk b (b + 8)) q := fun _ h => h
  have hS : va_S (blk b (b + 8)) s.heap s.heap [] := va_S.rf
  have hl := lv_entry ([.ref b, .int len, .int way]) (n := 3) (Nat.le_of_ble_eq_true rfl)
  rw [lg_entry_eq]
  generalize (lg_sl ([.ref b, .int len, .int way]) ++ List.replicate (3 - (lg_sl ([.ref b, .int len, .int way])).length) Slot.unset).toArray = ls at hl ⊢
  have hl : lv_has ls 3 [(0, .ref b), (1, .int len), (2, .int way)] := hl
  refine lv_aload_n hx hb dX7_fits_0 rfl (lv_at hl 0 rfl) ?_
  refine lv_iload_n hx hb dX7_fits_1 rfl (lv_at hl 1 rfl) ?_
  refine cl_pi (rS (As := [.int len]) (rest := [.ref b]) ⟨hx, hb, hml, hown, hts⟩ (c_X7_isLength l G len) (va_cwS 1 hts gX7_fits_X7_isLength rfl rfl rfl (by decide +kernel) ⟨Nat.le_of_ble_eq_true rfl, Nat.le_of_ble_eq_true rfl⟩) trivial hO rfl hl.1 (Nat.le_of_ble_eq_true rfl) dX7_fits_2 ⟨Nat.le_of_ble_eq_true rfl, Nat.le_of_ble_eq_true rfl⟩) ?_
  refine lv_if_eq (tgt := 22) hx hb dX7_fits_5 (by decide) (fun c_1 => ?_) (fun c_1 => ?_)
  · refine lv_iconst (v := 1) hx hb dX7_fits_22 (by decide) ?_
    refine cl_mi (rV (As := [.int 1]) (rest := []) ⟨hx, hb, hml, hown, hts⟩ (c_X7_refused l G b M 1) (cwV 1 hts gX7_fits_X7_refused rfl rfl rfl (by decide +kernel) ⟨Nat.le_of_ble_eq_true rfl, Nat.le_of_ble_eq_true rfl⟩) (md_recv hO hP) hP hO rfl hl.1 (Nat.le_of_ble_eq_true rfl) dX7_fits_23 ⟨Nat.le_of_ble_eq_true rfl, Nat.le_of_ble_eq_true rfl⟩) hS hA (fun H locs hP1 hz hk hS => ?_)
    have hP : Md G b ((h_X7_refused M 1).2) H := hP1
    refine lv_if_eq (tgt := 31) hx hb dX7_fits_26 (by decide) (fun c_2 => ?_) (fun c_2 => ?_)
    · exact absurd c_2 (ref_p1 _)
    · refine lv_iconst (v := 0) hx hb dX7_fits_29 (by decide) ?_
      have hE : h_X7_fits M len way = (0, (h_X7_refused M 1).2) := (by rw [h_X7_fits, if_pos c_1])
      have hE2 := snd_of hE
      exact W.iret hx hb hr (fun t ht hW => ⟨by rw [fst_of hE], by rw [ht, hE2]; exact hP, hS.F ht⟩) hS.2.2 dX7_fits_30
  · refine lv_iload_n hx hb dX7_fits_8 rfl (lv_at hl 2 rfl) ?_
    refine lv_i2l (v := way.toInt64) hx hb dX7_fits_9 rfl ?_
    refine lv_lconst (v := 0) hx hb dX7_fits_10 (by decide) ?_
    refine lv_lconst (v := 1) hx hb dX7_fits_11 (by decide) ?_
    refine cl_pi (rS (As := [.long way.toInt64, .long 0, .long 1]) (rest := [.ref b]) ⟨hx, hb, hml, hown, hts⟩ (c_X7_in l G way.toInt64 0 1) (va_cwS 3 hts gX7_fits_X7_in rfl rfl rfl (by decide +kernel) ⟨Nat.le_of_ble_eq_true rfl, Nat.le_of_ble_eq_true rfl⟩) trivial hO rfl hl.1 (Nat.le_of_ble_eq_true rfl) dX7_fits_12 ⟨Nat.le_of_ble_eq_true rfl, Nat.le_of_ble_eq_true rfl⟩) ?_
    refine lv_if_eq (tgt := 22) hx hb dX7_fits_15 (by decide) (fun c_3 => ?_) (fun c_3 => ?_)
    · refine lv_iconst (v := 1) hx hb dX7_fits_22 (by decide) ?_
      refine cl_mi (rV (As := [.int 1]) (rest := []) ⟨hx, hb, hml, hown, hts⟩ (c_X7_refused l G b M 1) (cwV 1 hts gX7_fits_X7_refused rfl rfl rfl (by decide +kernel) ⟨Nat.le_of_ble_eq_true rfl, Nat.le_of_ble_eq_true rfl⟩) (md_recv hO hP) hP hO rfl hl.1 (Nat.le_of_ble_eq_true rfl) dX7_fits_23 ⟨Nat.le_of_ble_eq_true rfl, Nat.le_of_ble_eq_true rfl⟩) hS hA (fun H locs hP1 hz hk hS => ?_)
      have hP : Md G b ((h_X7_refused M 1).2) H := hP1
      refine lv_if_eq (tgt := 31) hx hb dX7_fits_26 (by decide) (fun c_4 => ?_) (fun c_4 => ?_)
      · exact absurd c_4 (ref_p1 _)
      · refine lv_iconst (v := 0) hx hb dX7_fits_29 (by decide) ?_
        have hE : h_X7_fits M len way = (0, (h_X7_refused M 1).2) := (by rw [h_X7_fits, if_neg c_1, if_pos c_3])
        have hE2 := snd_of hE
        exact W.iret hx hb hr (fun t ht hW => ⟨by rw [fst_of hE], by rw [ht, hE2]; exact hP, hS.F ht⟩) hS.2.2 dX7_fits_30
    · refine lv_iconst (v := 0) hx hb dX7_fits_18 (by decide) ?_
      refine lv_goto (tgt := 23) hx hb dX7_fits_19 (by decide) ?_
      refine cl_mi (rV (As := [.int 0]) (rest := []) ⟨hx, hb, hml, hown, hts⟩ (c_X7_refused l G b M 0) (cwV 1 hts gX7_fits_X7_refused rfl rfl rfl (by decide +kernel) ⟨Nat.le_of_ble_eq_true rfl, Nat.le_of_ble_eq_true rfl⟩) (md_recv hO hP) hP hO rfl hl.1 (Nat.le_of_ble_eq_true rfl) dX7_fits_23 ⟨Nat.le_of_ble_eq_true rfl, Nat.le_of_ble_eq_true rfl⟩) hS hA (fun H locs hP1 hz hk hS => ?_)
      have hP : Md G b ((h_X7_refused M 0).2) H := hP1
      refine lv_if_eq (tgt := 31) hx hb dX7_fits_26 (by decide) (fun c_5 => ?_) (fun c_5 => ?_)
      · refine lv_aload_n hx hb dX7_fits_31 rfl (lv_at hl 0 rfl) ?_
        refine va_get (D := G.1) (ci := 5) (v := .ref (b + 2)) (C := RX7) (T := TX7) (N := 12) hx hb hts hin7 hown hO.1 hP 0 rfl rfl 3 (by decide) hf_13 (fun _ h9 => h9) rfl dX7_fits_32 ?_
        refine lv_iload_n hx hb dX7_fits_35 rfl (lv_at hl 1 rfl) ?_
        refine cl_pi (rS (As := [.ref (b + 2), .int len]) (rest := []) ⟨hx, hb, hml, hown, hts⟩ (c_X7_fitsIn l G (b + 2) (mN ((h_X7_refused M 0).2)) len (len_ne (by assumption))) (va_cwS 2 hts gX7_fits_X7_fitsIn rfl rfl rfl (by decide +kernel) ⟨Nat.le_of_ble_eq_true rfl, Nat.le_of_ble_eq_true rfl⟩) (va_P.sub hP [2] rfl) hO rfl hl.1 (Nat.le_of_ble_eq_true rfl) dX7_fits_36 ⟨Nat.le_of_ble_eq_true rfl, Nat.le_of_ble_eq_true rfl⟩) ?_
        have hE : h_X7_fits M len way = (f_X7_fitsIn (mN ((h_X7_refused M 0).2)) len, (h_X7_refused M 0).2) := (by rw [h_X7_fits, if_neg c_1, if_neg c_3])
        have hE2 := snd_of hE
        exact W.iret hx hb hr (fun t ht hW => ⟨by rw [fst_of hE], by rw [ht, hE2]; exact hP, hS.F ht⟩) hS.2.2 dX7_fits_39
      · exact absurd (ref_0 _) c_5

def h_X7_save (M : Mo) (x : Int32) : Int32 × Mo :=
  if (f_X7_in x.toInt64 0 1) = 0 then (0, (h_X7_refused M 1).2) else
  ((mN (oI (oK ((h_X7_refused M 0).2) (h_X7_copyState (mN ((h_X7_refused M 0).2)) (mK ((h_X7_refused M 0).2)) ((0 : Int32).toNatClampNeg) ((327 * x).toNatClampNeg))) (upd (mI (oK ((h_X7_refused M 0).2) (h_X7_copyState (mN ((h_X7_refused M 0).2)) (mK ((h_X7_refused M 0).2)) ((0 : Int32).toNatClampNeg) ((327 * x).toNatClampNeg)))) x.toNatClampNeg (vp_nar .boolean 1)))) 1, (oI (oK ((h_X7_refused M 0).2) (h_X7_copyState (mN ((h_X7_refused M 0).2)) (mK ((h_X7_refused M 0).2)) ((0 : Int32).toNatClampNeg) ((327 * x).toNatClampNeg))) (upd (mI (oK ((h_X7_refused M 0).2) (h_X7_copyState (mN ((h_X7_refused M 0).2)) (mK ((h_X7_refused M 0).2)) ((0 : Int32).toNatClampNeg) ((327 * x).toNatClampNeg)))) x.toNatClampNeg (vp_nar .boolean 1))))
set_option maxHeartbeats 4000000 in
set_option maxRecDepth 100000 in
theorem c_X7_save (l : Launch) (G : GG) (b : Nat) (M : Mo) (x : Int32) : Met l yX7_save wsX7_save ({ frames := 1, cells := 0, slots := 0, locals := 25 }) (PcH G [.ref b, .int x] (Md G b M)) (QM (some (.int ((h_X7_save M x).1))) (Md G b ((h_X7_save M x).2)) (blk b (b + 8))) 0 0 (blk b (b + 8)) := by
  refine metH (cc := cX7_save) (maxL := 2) (ret := (some .int)) (by decide) rfl ?_
  intro p e s m below meth cd hx hb hr hml hown hts hlocks hP hO
  have hin7 : ∀ w ∈ u_ws RX7 TX7 12, w ∈ wsX7_save := by decide +kernel
  have hf_13 := hts (.fieldLink RX7 13 "CurbCarsModel" "now" "[I") (by decide +kernel)
  have hf_25 := hts (.fieldLink RX7 25 "CurbCarsModel" "kept" "[I") (by decide +kernel)
  have hf_28 := hts (.fieldLink RX7 28 "CurbCarsModel" "isKept" "[Z") (by decide +kernel)
  have hA : ∀ q, (blk b (b + 8)) q → (blk b (b + 8)) q := fun _ h => h
  have hS : va_S (blk b (b + 8)) s.heap s.heap [] := va_S.rf
  have hl := lv_entry ([.ref b, .int x]) (n := 2) (Nat.le_of_ble_eq_true rfl)
  rw [lg_entry_eq]
  generalize (lg_sl ([.ref b, .int x]) ++ List.replicate (2 - (lg_sl ([.ref b, .int x])).length) Slot.unset).toArray = ls at hl ⊢
  have hl : lv_has ls 2 [(0, .ref b), (1, .int x)] := hl
  refine lv_aload_n hx hb dX7_save_0 rfl (lv_at hl 0 rfl) ?_
  refine lv_iload_n hx hb dX7_save_1 rfl (lv_at hl 1 rfl) ?_
  refine lv_i2l (v := x.toInt64) hx hb dX7_save_2 rfl ?_
  refine lv_lconst (v := 0) hx hb dX7_save_3 (by decide) ?_
  refine lv_lconst (v := 1) hx hb dX7_save_4 (by decide) ?_
  refine cl_pi (rS (As := [.long x.toInt64, .long 0, .long 1]) (rest := [.ref b]) ⟨hx, hb, hml, hown, hts⟩ (c_X7_in l G x.toInt64 0 1) (va_cwS 3 hts gX7_save_X7_in rfl rfl rfl (by decide +kernel) ⟨Nat.le_of_ble_eq_true rfl, Nat.le_of_ble_eq_true rfl⟩) trivial hO rfl hl.1 (Nat.le_of_ble_eq_true rfl) dX7_save_5 ⟨Nat.le_of_ble_eq_true rfl, Nat.le_of_ble_eq_true rfl⟩) ?_
  refine lv_if_eq (tgt := 15) hx hb dX7_save_8 (by decide) (fun c_1 => ?_) (fun c_1 => ?_)
  · refine lv_iconst (v := 1) hx hb dX7_save_15 (by decide) ?_
    refine cl_mi (rV (As := [.int 1]) (rest := []) ⟨hx, hb, hml, hown, hts⟩ (c_X7_refused l G b M 1) (cwV 1 hts gX7_save_X7_refused rfl rfl rfl (by decide +kernel) ⟨Nat.le_of_ble_eq_true rfl, Nat.le_of_ble_eq_true rfl⟩) (md_recv hO hP) hP hO rfl hl.1 (Nat.le_of_ble_eq_true rfl) dX7_save_16 ⟨Nat.le_of_ble_eq_true rfl, Nat.le_of_ble_eq_true rfl⟩) hS hA (fun H locs hP1 hz hk hS => ?_)
    have hP : Md G b ((h_X7_refused M 1).2) H := hP1
    refine lv_if_eq (tgt := 24) hx hb dX7_save_19 (by decide) (fun c_2 => ?_) (fun c_2 => ?_)
    · exact absurd c_2 (ref_p1 _)
    · refine lv_iconst (v := 0) hx hb dX7_save_22 (by decide) ?_
      have hE : h_X7_save M x = (0, (h_X7_refused M 1).2) := (by rw [h_X7_save, if_pos c_1])
      have hE2 := snd_of hE
      exact W.iret hx hb hr (fun t ht hW => ⟨by rw [fst_of hE], by rw [ht, hE2]; exact hP, hS.F ht⟩) hS.2.2 dX7_save_23
  · refine lv_iconst (v := 0) hx hb dX7_save_11 (by decide) ?_
    refine lv_goto (tgt := 16) hx hb dX7_save_12 (by decide) ?_
    refine cl_mi (rV (As := [.int 0]) (rest := []) ⟨hx, hb, hml, hown, hts⟩ (c_X7_refused l G b M 0) (cwV 1 hts gX7_save_X7_refused rfl rfl rfl (by decide +kernel) ⟨Nat.le_of_ble_eq_true rfl, Nat.le_of_ble_eq_true rfl⟩) (md_recv hO hP) hP hO rfl hl.1 (Nat.le_of_ble_eq_true rfl) dX7_save_16 ⟨Nat.le_of_ble_eq_true rfl, Nat.le_of_ble_eq_true rfl⟩) hS hA (fun H locs hP1 hz hk hS => ?_)
    have hP : Md G b ((h_X7_refused M 0).2) H := hP1
    refine lv_if_eq (tgt := 24) hx hb dX7_save_19 (by decide) (fun c_3 => ?_) (fun c_3 => ?_)
    · refine lv_aload_n hx hb dX7_save_24 rfl (lv_at hl 0 rfl) ?_
      refine va_get (D := G.1) (ci := 5) (v := .ref (b + 2)) (C := RX7) (T := TX7) (N := 12) hx hb hts hin7 hown hO.1 hP 0 rfl rfl 3 (by decide) hf_13 (fun _ h9 => h9) rfl dX7_save_25 ?_
      refine lv_iconst (v := 0) hx hb dX7_save_28 (by decide) ?_
      refine lv_aload_n hx hb dX7_save_29 rfl (lv_at hl 0 rfl) ?_
      refine va_get (D := G.1) (ci := 5) (v := .ref (b + 6)) (C := RX7) (T := TX7) (N := 12) hx hb hts hin7 hown hO.1 hP 0 rfl rfl 8 (by decide) hf_25 (fun _ h9 => h9) rfl dX7_save_30 ?_
      refine lv_sipush (v := 327) hx hb dX7_save_33 (by decide) ?_
      refine lv_iload_n hx hb dX7_save_36 rfl (lv_at hl 1 rfl) ?_
      refine lv_imul hx hb dX7_save_37 ?_
      refine cl_mv (rS (As := [.ref (b + 2), .int 0, .ref (b + 6), .int (327 * x)]) (rest := []) ⟨hx, hb, hml, hown, hts⟩ (c_X7_copyState_raw l G (b + 2) 327 (mN ((h_X7_refused M 0).2)) (b + 6) 654 (mK ((h_X7_refused M 0).2)) 0 (327 * x) (by first | exact ⟨0, by omega, rfl⟩ | exact slot_ix (by assumption)) (by first | exact ⟨0, by omega, rfl⟩ | exact slot_ix (by assumption)) (by decide) (by decide) (by omega)) (va_cwS 4 hts gX7_save_X7_copyState rfl rfl rfl (by decide +kernel) ⟨Nat.le_of_ble_eq_true rfl, Nat.le_of_ble_eq_true rfl⟩) (va_P.sub hP [2, 6] rfl) hO rfl hl.1 (Nat.le_of_ble_eq_true rfl) dX7_save_38 ⟨Nat.le_of_ble_eq_true rfl, Nat.le_of_ble_eq_true rfl⟩) hS (fun q h => hA q (by simp only [two, blk] at *; omega)) (fun H locs hP1 hz hk hS => ?_)
      have hP : Md G b (oK ((h_X7_refused M 0).2) (h_X7_copyState (mN ((h_X7_refused M 0).2)) (mK ((h_X7_refused M 0).2)) ((0 : Int32).toNatClampNeg) ((327 * x).toNatClampNeg))) H := md_pK (two_row 2 6 hP (md_D b ((h_X7_refused M 0).2) hA) rfl rfl hP1 hk)
      refine lv_aload_n hx hb dX7_save_41 rfl (lv_at hl 0 rfl) ?_
      refine va_get (D := G.1) (ci := 5) (v := .ref (b + 7)) (C := RX7) (T := TX7) (N := 12) hx hb hts hin7 hown hO.1 hP 0 rfl rfl 9 (by decide) hf_28 (fun _ h9 => h9) rfl dX7_save_42 ?_
      refine lv_iload_n hx hb dX7_save_45 rfl (lv_at hl 1 rfl) ?_
      refine lv_iconst (v := 1) hx hb dX7_save_46 (by decide) ?_
      refine va_zast hx hb hO.1 hP (md_D b (oK ((h_X7_refused M 0).2) (h_X7_copyState (mN ((h_X7_refused M 0).2)) (mK ((h_X7_refused M 0).2)) ((0 : Int32).toNatClampNeg) ((327 * x).toNatClampNeg))) hA) hS 7 2 rfl rfl (slot_in (by assumption)) dX7_save_47 (fun H locs hP hD hS => ?_)
      have hP : Md G b (oI (oK ((h_X7_refused M 0).2) (h_X7_copyState (mN ((h_X7_refused M 0).2)) (mK ((h_X7_refused M 0).2)) ((0 : Int32).toNatClampNeg) ((327 * x).toNatClampNeg))) (upd (mI (oK ((h_X7_refused M 0).2) (h_X7_copyState (mN ((h_X7_refused M 0).2)) (mK ((h_X7_refused M 0).2)) ((0 : Int32).toNatClampNeg) ((327 * x).toNatClampNeg)))) x.toNatClampNeg (vp_nar .boolean 1))) H := md_pI hP
      refine lv_aload_n hx hb dX7_save_48 rfl (lv_at hl 0 rfl) ?_
      refine va_get (D := G.1) (ci := 5) (v := .ref (b + 2)) (C := RX7) (T := TX7) (N := 12) hx hb hts hin7 hown hO.1 hP 0 rfl rfl 3 (by decide) hf_13 (fun _ h9 => h9) rfl dX7_save_49 ?_
      refine lv_iconst (v := 1) hx hb dX7_save_52 (by decide) ?_
      refine iald_n (k := 1) hx hb hO.1 hP 2 0 rfl rfl (by omega) (by decide) dX7_save_53 ?_
      have hE : h_X7_save M x = ((mN (oI (oK ((h_X7_refused M 0).2) (h_X7_copyState (mN ((h_X7_refused M 0).2)) (mK ((h_X7_refused M 0).2)) ((0 : Int32).toNatClampNeg) ((327 * x).toNatClampNeg))) (upd (mI (oK ((h_X7_refused M 0).2) (h_X7_copyState (mN ((h_X7_refused M 0).2)) (mK ((h_X7_refused M 0).2)) ((0 : Int32).toNatClampNeg) ((327 * x).toNatClampNeg)))) x.toNatClampNeg (vp_nar .boolean 1)))) 1, (oI (oK ((h_X7_refused M 0).2) (h_X7_copyState (mN ((h_X7_refused M 0).2)) (mK ((h_X7_refused M 0).2)) ((0 : Int32).toNatClampNeg) ((327 * x).toNatClampNeg))) (upd (mI (oK ((h_X7_refused M 0).2) (h_X7_copyState (mN ((h_X7_refused M 0).2)) (mK ((h_X7_refused M 0).2)) ((0 : Int32).toNatClampNeg) ((327 * x).toNatClampNeg)))) x.toNatClampNeg (vp_nar .boolean 1)))) := (by rw [h_X7_save, if_neg c_1])
      have hE2 := snd_of hE
      exact W.iret hx hb hr (fun t ht hW => ⟨by rw [fst_of hE], by rw [ht, hE2]; exact hP, hS.F ht⟩) hS.2.2 dX7_save_54
    · exact absurd (ref_0 _) c_3

def h_X7_restore (M : Mo) (x : Int32) : Int32 × Mo :=
  if (f_X7_in x.toInt64 0 1) = 0 then (0, (h_X7_refused M 1).2) else
  if ((mI M) x.toNatClampNeg) = 0 then (0, (h_X7_refused M 2).2) else
  ((mN (oC (oN ((h_X7_refused M 0).2) (h_X7_copyState (mK ((h_X7_refused M 0).2)) (mN ((h_X7_refused M 0).2)) ((327 * x).toNatClampNeg) ((0 : Int32).toNatClampNeg))) 0)) 1, (oC (oN ((h_X7_refused M 0).2) (h_X7_copyState (mK ((h_X7_refused M 0).2)) (mN ((h_X7_refused M 0).2)) ((327 * x).toNatClampNeg) ((0 : Int32).toNatClampNeg))) 0))
set_option maxHeartbeats 4000000 in
set_option maxRecDepth 100000 in
theorem c_X7_restore (l : Launch) (G : GG) (b : Nat) (M : Mo) (x : Int32) : Met l yX7_restore wsX7_restore ({ frames := 1, cells := 0, slots := 0, locals := 25 }) (PcH G [.ref b, .int x] (Md G b M)) (QM (some (.int ((h_X7_restore M x).1))) (Md G b ((h_X7_restore M x).2)) (blk b (b + 8))) 0 0 (blk b (b + 8)) := by
  refine metH (cc := cX7_restore) (maxL := 2) (ret := (some .int)) (by decide) rfl ?_
  intro p e s m below meth cd hx hb hr hml hown hts hlocks hP hO
  have hin7 : ∀ w ∈ u_ws RX7 TX7 12, w ∈ wsX7_restore := by decide +kernel
  have hf_13 := hts (.fieldLink RX7 13 "CurbCarsModel" "now" "[I") (by decide +kernel)
  have hf_25 := hts (.fieldLink RX7 25 "CurbCarsModel" "kept" "[I") (by decide +kernel)
  have hf_28 := hts (.fieldLink RX7 28 "CurbCarsModel" "isKept" "[Z") (by decide +kernel)
  have hf_202 := hts (.fieldLink RX7 202 "CurbCarsModel" "acts" "I") (by decide +kernel)
  have hA : ∀ q, (blk b (b + 8)) q → (blk b (b + 8)) q := fun _ h => h
  have hS : va_S (blk b (b + 8)) s.heap s.heap [] := va_S.rf
  have hl := lv_entry ([.ref b, .int x]) (n := 2) (Nat.le_of_ble_eq_true rfl)
  rw [lg_entry_eq]
  generalize (lg_sl ([.ref b, .int x]) ++ List.replicate (2 - (lg_sl ([.ref b, .int x])).length) Slot.unset).toArray = ls at hl ⊢
  have hl : lv_has ls 2 [(0, .ref b), (1, .int x)] := hl
  refine lv_aload_n hx hb dX7_restore_0 rfl (lv_at hl 0 rfl) ?_
  refine lv_iload_n hx hb dX7_restore_1 rfl (lv_at hl 1 rfl) ?_
  refine lv_i2l (v := x.toInt64) hx hb dX7_restore_2 rfl ?_
  refine lv_lconst (v := 0) hx hb dX7_restore_3 (by decide) ?_
  refine lv_lconst (v := 1) hx hb dX7_restore_4 (by decide) ?_
  refine cl_pi (rS (As := [.long x.toInt64, .long 0, .long 1]) (rest := [.ref b]) ⟨hx, hb, hml, hown, hts⟩ (c_X7_in l G x.toInt64 0 1) (va_cwS 3 hts gX7_restore_X7_in rfl rfl rfl (by decide +kernel) ⟨Nat.le_of_ble_eq_true rfl, Nat.le_of_ble_eq_true rfl⟩) trivial hO rfl hl.1 (Nat.le_of_ble_eq_true rfl) dX7_restore_5 ⟨Nat.le_of_ble_eq_true rfl, Nat.le_of_ble_eq_true rfl⟩) ?_
  refine lv_if_ne (tgt := 15) hx hb dX7_restore_8 (by decide) (fun c_1 => ?_) (fun c_1 => ?_)
  · refine lv_aload_n hx hb dX7_restore_15 rfl (lv_at hl 0 rfl) ?_
    refine va_get (D := G.1) (ci := 5) (v := .ref (b + 7)) (C := RX7) (T := TX7) (N := 12) hx hb hts hin7 hown hO.1 hP 0 rfl rfl 9 (by decide) hf_28 (fun _ h9 => h9) rfl dX7_restore_16 ?_
    refine lv_iload_n hx hb dX7_restore_19 rfl (lv_at hl 1 rfl) ?_
    refine va_zald hx hb hO.1 hP 7 2 rfl rfl (slot_in (by assumption)) dX7_restore_20 ?_
    refine lv_if_ne (tgt := 28) hx hb dX7_restore_21 (by decide) (fun c_2 => ?_) (fun c_2 => ?_)
    · refine lv_iconst (v := 0) hx hb dX7_restore_28 (by decide) ?_
      refine cl_mi (rV (As := [.int 0]) (rest := []) ⟨hx, hb, hml, hown, hts⟩ (c_X7_refused l G b M 0) (cwV 1 hts gX7_restore_X7_refused rfl rfl rfl (by decide +kernel) ⟨Nat.le_of_ble_eq_true rfl, Nat.le_of_ble_eq_true rfl⟩) (md_recv hO hP) hP hO rfl hl.1 (Nat.le_of_ble_eq_true rfl) dX7_restore_29 ⟨Nat.le_of_ble_eq_true rfl, Nat.le_of_ble_eq_true rfl⟩) hS hA (fun H locs hP1 hz hk hS => ?_)
      have hP : Md G b ((h_X7_refused M 0).2) H := hP1
      refine lv_if_eq (tgt := 37) hx hb dX7_restore_32 (by decide) (fun c_3 => ?_) (fun c_3 => ?_)
      · refine lv_aload_n hx hb dX7_restore_37 rfl (lv_at hl 0 rfl) ?_
        refine va_get (D := G.1) (ci := 5) (v := .ref (b + 6)) (C := RX7) (T := TX7) (N := 12) hx hb hts hin7 hown hO.1 hP 0 rfl rfl 8 (by decide) hf_25 (fun _ h9 => h9) rfl dX7_restore_38 ?_
        refine lv_sipush (v := 327) hx hb dX7_restore_41 (by decide) ?_
        refine lv_iload_n hx hb dX7_restore_44 rfl (lv_at hl 1 rfl) ?_
        refine lv_imul hx hb dX7_restore_45 ?_
        refine lv_aload_n hx hb dX7_restore_46 rfl (lv_at hl 0 rfl) ?_
        refine va_get (D := G.1) (ci := 5) (v := .ref (b + 2)) (C := RX7) (T := TX7) (N := 12) hx hb hts hin7 hown hO.1 hP 0 rfl rfl 3 (by decide) hf_13 (fun _ h9 => h9) rfl dX7_restore_47 ?_
        refine lv_iconst (v := 0) hx hb dX7_restore_50 (by decide) ?_
        refine cl_mv (rS (As := [.ref (b + 6), .int (327 * x), .ref (b + 2), .int 0]) (rest := []) ⟨hx, hb, hml, hown, hts⟩ (c_X7_copyState_raw l G (b + 6) 654 (mK ((h_X7_refused M 0).2)) (b + 2) 327 (mN ((h_X7_refused M 0).2)) (327 * x) 0 (by first | exact ⟨0, by omega, rfl⟩ | exact slot_ix (by assumption)) (by first | exact ⟨0, by omega, rfl⟩ | exact slot_ix (by assumption)) (by decide) (by decide) (by omega)) (va_cwS 4 hts gX7_restore_X7_copyState rfl rfl rfl (by decide +kernel) ⟨Nat.le_of_ble_eq_true rfl, Nat.le_of_ble_eq_true rfl⟩) (va_P.sub hP [6, 2] rfl) hO rfl hl.1 (Nat.le_of_ble_eq_true rfl) dX7_restore_51 ⟨Nat.le_of_ble_eq_true rfl, Nat.le_of_ble_eq_true rfl⟩) hS (fun q h => hA q (by simp only [two, blk] at *; omega)) (fun H locs hP1 hz hk hS => ?_)
        have hP : Md G b (oN ((h_X7_refused M 0).2) (h_X7_copyState (mK ((h_X7_refused M 0).2)) (mN ((h_X7_refused M 0).2)) ((327 * x).toNatClampNeg) ((0 : Int32).toNatClampNeg))) H := md_pN (two_row 6 2 hP (md_D b ((h_X7_refused M 0).2) hA) rfl rfl hP1 hk)
        refine lv_aload_n hx hb dX7_restore_54 rfl (lv_at hl 0 rfl) ?_
        refine lv_iconst (v := 0) hx hb dX7_restore_55 (by decide) ?_
        refine va_put (D := G.1) (ci := 5) (v := .int 0) (ty := .int) (C := RX7) (T := TX7) (N := 12) hx hb hts hin7 tyX7 tyX7_ok nmX7 hown hO.1 hP (md_D b (oN ((h_X7_refused M 0).2) (h_X7_copyState (mK ((h_X7_refused M 0).2)) (mN ((h_X7_refused M 0).2)) ((327 * x).toNatClampNeg) ((0 : Int32).toNatClampNeg))) hA) hS 0 rfl rfl 7 (by decide) hf_202 (fun _ h9 => h9) rfl (by decide +kernel) rfl rfl (Nat.le_of_ble_eq_true rfl) dX7_restore_56 (fun H locs hP hD hS => ?_)
        have hP : Md G b (oC (oN ((h_X7_refused M 0).2) (h_X7_copyState (mK ((h_X7_refused M 0).2)) (mN ((h_X7_refused M 0).2)) ((327 * x).toNatClampNeg) ((0 : Int32).toNatClampNeg))) 0) H := md_pC hP
        refine lv_aload_n hx hb dX7_restore_59 rfl (lv_at hl 0 rfl) ?_
        refine va_get (D := G.1) (ci := 5) (v := .ref (b + 2)) (C := RX7) (T := TX7) (N := 12) hx hb hts hin7 hown hO.1 hP 0 rfl rfl 3 (by decide) hf_13 (fun _ h9 => h9) rfl dX7_restore_60 ?_
        refine lv_iconst (v := 1) hx hb dX7_restore_63 (by decide) ?_
        refine iald_n (k := 1) hx hb hO.1 hP 2 0 rfl rfl (by omega) (by decide) dX7_restore_64 ?_
        have hE : h_X7_restore M x = ((mN (oC (oN ((h_X7_refused M 0).2) (h_X7_copyState (mK ((h_X7_refused M 0).2)) (mN ((h_X7_refused M 0).2)) ((327 * x).toNatClampNeg) ((0 : Int32).toNatClampNeg))) 0)) 1, (oC (oN ((h_X7_refused M 0).2) (h_X7_copyState (mK ((h_X7_refused M 0).2)) (mN ((h_X7_refused M 0).2)) ((327 * x).toNatClampNeg) ((0 : Int32).toNatClampNeg))) 0)) := (by rw [h_X7_restore, if_neg c_1, if_neg c_2])
        have hE2 := snd_of hE
        exact W.iret hx hb hr (fun t ht hW => ⟨by rw [fst_of hE], by rw [ht, hE2]; exact hP, hS.F ht⟩) hS.2.2 dX7_restore_65
      · exact absurd (ref_0 _) c_3
    · refine lv_iconst (v := 2) hx hb dX7_restore_24 (by decide) ?_
      refine lv_goto (tgt := 29) hx hb dX7_restore_25 (by decide) ?_
      refine cl_mi (rV (As := [.int 2]) (rest := []) ⟨hx, hb, hml, hown, hts⟩ (c_X7_refused l G b M 2) (cwV 1 hts gX7_restore_X7_refused rfl rfl rfl (by decide +kernel) ⟨Nat.le_of_ble_eq_true rfl, Nat.le_of_ble_eq_true rfl⟩) (md_recv hO hP) hP hO rfl hl.1 (Nat.le_of_ble_eq_true rfl) dX7_restore_29 ⟨Nat.le_of_ble_eq_true rfl, Nat.le_of_ble_eq_true rfl⟩) hS hA (fun H locs hP1 hz hk hS => ?_)
      have hP : Md G b ((h_X7_refused M 2).2) H := hP1
      refine lv_if_eq (tgt := 37) hx hb dX7_restore_32 (by decide) (fun c_4 => ?_) (fun c_4 => ?_)
      · exact absurd c_4 (ref_p2 _)
      · refine lv_iconst (v := 0) hx hb dX7_restore_35 (by decide) ?_
        have hE : h_X7_restore M x = (0, (h_X7_refused M 2).2) := (by rw [h_X7_restore, if_neg c_1, if_pos c_2])
        have hE2 := snd_of hE
        exact W.iret hx hb hr (fun t ht hW => ⟨by rw [fst_of hE], by rw [ht, hE2]; exact hP, hS.F ht⟩) hS.2.2 dX7_restore_36
  · refine lv_iconst (v := 1) hx hb dX7_restore_11 (by decide) ?_
    refine lv_goto (tgt := 29) hx hb dX7_restore_12 (by decide) ?_
    refine cl_mi (rV (As := [.int 1]) (rest := []) ⟨hx, hb, hml, hown, hts⟩ (c_X7_refused l G b M 1) (cwV 1 hts gX7_restore_X7_refused rfl rfl rfl (by decide +kernel) ⟨Nat.le_of_ble_eq_true rfl, Nat.le_of_ble_eq_true rfl⟩) (md_recv hO hP) hP hO rfl hl.1 (Nat.le_of_ble_eq_true rfl) dX7_restore_29 ⟨Nat.le_of_ble_eq_true rfl, Nat.le_of_ble_eq_true rfl⟩) hS hA (fun H locs hP1 hz hk hS => ?_)
    have hP : Md G b ((h_X7_refused M 1).2) H := hP1
    refine lv_if_eq (tgt := 37) hx hb dX7_restore_32 (by decide) (fun c_5 => ?_) (fun c_5 => ?_)
    · exact absurd c_5 (ref_p1 _)
    · refine lv_iconst (v := 0) hx hb dX7_restore_35 (by decide) ?_
      have hE : h_X7_restore M x = (0, (h_X7_refused M 1).2) := (by rw [h_X7_restore, if_pos c_1])
      have hE2 := snd_of hE
      exact W.iret hx hb hr (fun t ht hW => ⟨by rw [fst_of hE], by rw [ht, hE2]; exact hP, hS.F ht⟩) hS.2.2 dX7_restore_36
