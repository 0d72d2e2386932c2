theorem und_C {M : Mo} (hac : mC M = nI (ac M)) (hac14 : ac M ≤ 14) (h : ¬ mC M = 0) : mC (oC (h_X7_refused M 0).2 ((mC (h_X7_refused M 0).2) - 1)) = nI (ac M - 1) := by
  rw [mC_oC, ref_C, hac]
  have h0 : 0 < ac M := Nat.pos_of_ne_zero fun z => h (by rw [hac, z]; rfl)
  exact pk_sub (b := 1) h0
theorem und_lt {M : Mo} (hac : mC M = nI (ac M)) (hac14 : ac M ≤ 14) (h : ¬ mC M = 0) : ac M - 1 < 14 := by
  have h0 : 0 < ac M := Nat.pos_of_ne_zero fun z => h (by rw [hac, z]; rfl)
  omega

def h_X7_undo (M : Mo) : Int32 × Mo :=
  if (mC M) = 0 then (0, (h_X7_refused M 1).2) else
  (mC (oN (oC ((h_X7_refused M 0).2) ((mC ((h_X7_refused M 0).2)) - 1)) (h_X7_copyState (mD (oC ((h_X7_refused M 0).2) ((mC ((h_X7_refused M 0).2)) - 1))) (mN (oC ((h_X7_refused M 0).2) ((mC ((h_X7_refused M 0).2)) - 1))) (327 * (ac M - 1)) 0)), (oN (oC ((h_X7_refused M 0).2) ((mC ((h_X7_refused M 0).2)) - 1)) (h_X7_copyState (mD (oC ((h_X7_refused M 0).2) ((mC ((h_X7_refused M 0).2)) - 1))) (mN (oC ((h_X7_refused M 0).2) ((mC ((h_X7_refused M 0).2)) - 1))) (327 * (ac M - 1)) 0)))
set_option maxHeartbeats 4000000 in
set_option maxRecDepth 100000 in
theorem c_X7_undo (l : Launch) (G : GG) (b : Nat) (M : Mo) (hRI : RI (mN M)) (hac : mC M = nI (ac M)) (hac14 : ac M ≤ 14) : Met l yX7_undo wsX7_undo ({ frames := 1, cells := 0, slots := 0, locals := 24 }) (PcH G [.ref b] (Md G b M)) (QM (some (.int ((h_X7_undo M).1))) (Md G b ((h_X7_undo M).2)) (blk b (b + 8))) 0 0 (blk b (b + 8)) := by
  refine metH (cc := cX7_undo) (maxL := 1) (ret := (some .int)) (by decide) rfl ?_
  intro p e s m below meth cd hx hb hr hml hown hts hlocks hP hO
  have hin7 : ∀ w ∈ u_ws RX7 TX7 12, w ∈ wsX7_undo := by decide +kernel
  have hf_13 := hts (.fieldLink RX7 13 "CurbCarsModel" "now" "[I") (by decide +kernel)
  have hf_22 := hts (.fieldLink RX7 22 "CurbCarsModel" "diary" "[I") (by decide +kernel)
  have hf_202 := hts (.fieldLink RX7 202 "CurbCarsModel" "acts" "I") (by decide +kernel)
  have hA : ∀ q, (blk b (b + 8)) q → (blk b (b + 8)) q := fun _ h => h
  have hS : va_S (blk b (b + 8)) s.heap s.heap [] := va_S.rf
  have hl := lv_entry ([.ref b]) (n := 1) (Nat.le_of_ble_eq_true rfl)
  rw [lg_entry_eq]
  generalize (lg_sl ([.ref b]) ++ List.replicate (1 - (lg_sl ([.ref b])).length) Slot.unset).toArray = ls at hl ⊢
  have hl : lv_has ls 1 [(0, .ref b)] := hl
  refine lv_aload_n hx hb dX7_undo_0 rfl (lv_at hl 0 rfl) ?_
  refine lv_aload_n hx hb dX7_undo_1 rfl (lv_at hl 0 rfl) ?_
  refine va_get (D := G.1) (ci := 5) (v := .int (mC M)) (C := RX7) (T := TX7) (N := 12) hx hb hts hin7 hown hO.1 hP 0 rfl rfl 7 (by decide) hf_202 (fun _ h9 => h9) rfl dX7_undo_2 ?_
  refine lv_if_ne (tgt := 12) hx hb dX7_undo_5 (by decide) (fun c_1 => ?_) (fun c_1 => ?_)
  · refine lv_iconst (v := 0) hx hb dX7_undo_12 (by decide) ?_
    refine cl_mi (rV (As := [.int 0]) (rest := []) ⟨hx, hb, hml, hown, hts⟩ (c_X7_refused l G b M 0) (cwV 1 hts gX7_undo_X7_refused rfl rfl rfl (by decide +kernel) ⟨Nat.le_of_ble_eq_true rfl, Nat.le_of_ble_eq_true rfl⟩) (md_recv hO hP) hP hO rfl hl.1 (Nat.le_of_ble_eq_true rfl) dX7_undo_13 ⟨Nat.le_of_ble_eq_true rfl, Nat.le_of_ble_eq_true rfl⟩) hS hA (fun H locs hP1 hz hk hS => ?_)
    have hP : Md G b ((h_X7_refused M 0).2) H := hP1
    refine lv_if_eq (tgt := 21) hx hb dX7_undo_16 (by decide) (fun c_2 => ?_) (fun c_2 => ?_)
    · refine lv_aload_n hx hb dX7_undo_21 rfl (lv_at hl 0 rfl) ?_
      refine lv_dup hx hb dX7_undo_22 rfl ?_
      refine va_get (D := G.1) (ci := 5) (v := .int (mC ((h_X7_refused M 0).2))) (C := RX7) (T := TX7) (N := 12) hx hb hts hin7 hown hO.1 hP 0 rfl rfl 7 (by decide) hf_202 (fun _ h9 => h9) rfl dX7_undo_23 ?_
      refine lv_iconst (v := 1) hx hb dX7_undo_26 (by decide) ?_
      refine lv_isub hx hb dX7_undo_27 ?_
      refine va_put (D := G.1) (ci := 5) (v := .int ((mC ((h_X7_refused M 0).2)) - 1)) (ty := .int) (C := RX7) (T := TX7) (N := 12) hx hb hts hin7 tyX7 tyX7_ok nmX7 hown hO.1 hP (md_D b ((h_X7_refused M 0).2) hA) hS 0 rfl rfl 7 (by decide) hf_202 (fun _ h9 => h9) rfl (by decide +kernel) rfl rfl (Nat.le_of_ble_eq_true rfl) dX7_undo_28 (fun H locs hP hD hS => ?_)
      have hP : Md G b (oC ((h_X7_refused M 0).2) ((mC ((h_X7_refused M 0).2)) - 1)) H := md_pC hP
      refine lv_aload_n hx hb dX7_undo_31 rfl (lv_at hl 0 rfl) ?_
      refine va_get (D := G.1) (ci := 5) (v := .ref (b + 5)) (C := RX7) (T := TX7) (N := 12) hx hb hts hin7 hown hO.1 hP 0 rfl rfl 6 (by decide) hf_22 (fun _ h9 => h9) rfl dX7_undo_32 ?_
      refine lv_sipush (v := 327) hx hb dX7_undo_35 (by decide) ?_
      refine lv_aload_n hx hb dX7_undo_38 rfl (lv_at hl 0 rfl) ?_
      refine va_get (D := G.1) (ci := 5) (v := .int (mC (oC ((h_X7_refused M 0).2) ((mC ((h_X7_refused M 0).2)) - 1)))) (C := RX7) (T := TX7) (N := 12) hx hb hts hin7 hown hO.1 hP 0 rfl rfl 7 (by decide) hf_202 (fun _ h9 => h9) rfl dX7_undo_39 ?_
      rw [(und_C hac hac14 (by assumption))]
      refine imul_n (a := 327) (b := ac M - 1) hx hb dX7_undo_42 ?_
      refine lv_aload_n hx hb dX7_undo_43 rfl (lv_at hl 0 rfl) ?_
      refine va_get (D := G.1) (ci := 5) (v := .ref (b + 2)) (C := RX7) (T := TX7) (N := 12) hx hb hts hin7 hown hO.1 hP 0 rfl rfl 3 (by decide) hf_13 (fun _ h9 => h9) rfl dX7_undo_44 ?_
      refine lv_iconst (v := 0) hx hb dX7_undo_47 (by decide) ?_
      refine cl_mv (rS (As := [.ref (b + 5), .int (nI (327 * (ac M - 1))), .ref (b + 2), .int 0]) (rest := []) ⟨hx, hb, hml, hown, hts⟩ (c_X7_copyState l G (b + 5) 4578 (mD (oC ((h_X7_refused M 0).2) ((mC ((h_X7_refused M 0).2)) - 1))) (b + 2) 327 (mN (oC ((h_X7_refused M 0).2) ((mC ((h_X7_refused M 0).2)) - 1))) (327 * (ac M - 1)) 0 (by have h9 := und_lt hac hac14 (by assumption); omega) (by omega) (by decide) (by decide) (by omega)) (va_cwS 4 hts gX7_undo_X7_copyState rfl rfl rfl (by decide +kernel) ⟨Nat.le_of_ble_eq_true rfl, Nat.le_of_ble_eq_true rfl⟩) (va_P.sub hP [5, 2] rfl) hO rfl hl.1 (Nat.le_of_ble_eq_true rfl) dX7_undo_48 ⟨Nat.le_of_ble_eq_true rfl, Nat.le_of_ble_eq_true rfl⟩) hS (fun q h => hA q (by simp only [two, blk] at *; omega)) (fun H locs hP1 hz hk hS => ?_)
      have hP : Md G b (oN (oC ((h_X7_refused M 0).2) ((mC ((h_X7_refused M 0).2)) - 1)) (h_X7_copyState (mD (oC ((h_X7_refused M 0).2) ((mC ((h_X7_refused M 0).2)) - 1))) (mN (oC ((h_X7_refused M 0).2) ((mC ((h_X7_refused M 0).2)) - 1))) (327 * (ac M - 1)) 0)) H := md_pN (two_row 5 2 hP (md_D b (oC ((h_X7_refused M 0).2) ((mC ((h_X7_refused M 0).2)) - 1)) hA) rfl rfl hP1 hk)
      refine lv_aload_n hx hb dX7_undo_51 rfl (lv_at hl 0 rfl) ?_
      refine va_get (D := G.1) (ci := 5) (v := .int (mC (oN (oC ((h_X7_refused M 0).2) ((mC ((h_X7_refused M 0).2)) - 1)) (h_X7_copyState (mD (oC ((h_X7_refused M 0).2) ((mC ((h_X7_refused M 0).2)) - 1))) (mN (oC ((h_X7_refused M 0).2) ((mC ((h_X7_refused M 0).2)) - 1))) (327 * (ac M - 1)) 0)))) (C := RX7) (T := TX7) (N := 12) hx hb hts hin7 hown hO.1 hP 0 rfl rfl 7 (by decide) hf_202 (fun _ h9 => h9) rfl dX7_undo_52 ?_
      have hE : h_X7_undo M = (mC (oN (oC ((h_X7_refused M 0).2) ((mC ((h_X7_refused M 0).2)) - 1)) (h_X7_copyState (mD (oC ((h_X7_refused M 0).2) ((mC ((h_X7_refused M 0).2)) - 1))) (mN (oC ((h_X7_refused M 0).2) ((mC ((h_X7_refused M 0).2)) - 1))) (327 * (ac M - 1)) 0)), (oN (oC ((h_X7_refused M 0).2) ((mC ((h_X7_refused M 0).2)) - 1)) (h_X7_copyState (mD (oC ((h_X7_refused M 0).2) ((mC ((h_X7_refused M 0).2)) - 1))) (mN (oC ((h_X7_refused M 0).2) ((mC ((h_X7_refused M 0).2)) - 1))) (327 * (ac M - 1)) 0))) := (by rw [h_X7_undo, if_neg c_1])
      have hE2 := snd_of hE
      exact W.iret hx hb hr (fun t ht hW => ⟨by rw [fst_of hE], by rw [ht, hE2]; exact hP, hS.F ht⟩) hS.2.2 dX7_undo_55
    · exact absurd (ref_0 _) c_2
  · refine lv_iconst (v := 1) hx hb dX7_undo_8 (by decide) ?_
    refine lv_goto (tgt := 13) hx hb dX7_undo_9 (by decide) ?_
    refine cl_mi (rV (As := [.int 1]) (rest := []) ⟨hx, hb, hml, hown, hts⟩ (c_X7_refused l G b M 1) (cwV 1 hts gX7_undo_X7_refused rfl rfl rfl (by decide +kernel) ⟨Nat.le_of_ble_eq_true rfl, Nat.le_of_ble_eq_true rfl⟩) (md_recv hO hP) hP hO rfl hl.1 (Nat.le_of_ble_eq_true rfl) dX7_undo_13 ⟨Nat.le_of_ble_eq_true rfl, Nat.le_of_ble_eq_true rfl⟩) hS hA (fun H locs hP1 hz hk hS => ?_)
    have hP : Md G b ((h_X7_refused M 1).2) H := hP1
    refine lv_if_eq (tgt := 21) hx hb dX7_undo_16 (by decide) (fun c_3 => ?_) (fun c_3 => ?_)
    · exact absurd c_3 (ref_p1 _)
    · refine lv_iconst (v := 0) hx hb dX7_undo_19 (by decide) ?_
      have hE : h_X7_undo M = (0, (h_X7_refused M 1).2) := (by rw [h_X7_undo, if_pos c_1])
      have hE2 := snd_of hE
      exact W.iret hx hb hr (fun t ht hW => ⟨by rw [fst_of hE], by rw [ht, hE2]; exact hP, hS.F ht⟩) hS.2.2 dX7_undo_20

def h_X7_place (M : Mo) (len : Int32) : Int32 × Mo :=
  if (f_X7_isLength len) = 0 then (0, (h_X7_refused M 1).2) else
  ((h_X7_placeFor (mR (oR ((h_X7_refused M 0).2) (h_X7_copyState (mN ((h_X7_refused M 0).2)) (mR ((h_X7_refused M 0).2)) 0 0))) len).1, (oR (oR ((h_X7_refused M 0).2) (h_X7_copyState (mN ((h_X7_refused M 0).2)) (mR ((h_X7_refused M 0).2)) 0 0)) ((h_X7_placeFor (mR (oR ((h_X7_refused M 0).2) (h_X7_copyState (mN ((h_X7_refused M 0).2)) (mR ((h_X7_refused M 0).2)) 0 0))) len).2)))
set_option maxHeartbeats 4000000 in
set_option maxRecDepth 100000 in
theorem c_X7_place (l : Launch) (G : GG) (b : Nat) (M : Mo) (len : Int32) : Met l yX7_place wsX7_place ({ frames := 4, cells := 0, slots := 0, locals := 91 }) (PcH G [.ref b, .int len] (Md G b M)) (QM (some (.int ((h_X7_place M len).1))) (Md G b ((h_X7_place M len).2)) (blk b (b + 8))) 0 0 (blk b (b + 8)) := by
  refine metH (cc := cX7_place) (maxL := 2) (ret := (some .int)) (by decide) rfl ?_
  intro p e s m below meth cd hx hb hr hml hown hts hlocks hP hO
  have hin7 : ∀ w ∈ u_ws RX7 TX7 12, w ∈ wsX7_place := by decide +kernel
  have hf_13 := hts (.fieldLink RX7 13 "CurbCarsModel" "now" "[I") (by decide +kernel)
  have hf_16 := hts (.fieldLink RX7 16 "CurbCarsModel" "trial" "[I") (by decide +kernel)
  have hA : ∀ q, (blk b (b + 8)) q → (blk b (b + 8)) q := fun _ h => h
  have hS : va_S (blk b (b + 8)) s.heap s.heap [] := va_S.rf
  have hl := lv_entry ([.ref b, .int len]) (n := 2) (Nat.le_of_ble_eq_true rfl)
  rw [lg_entry_eq]
  generalize (lg_sl ([.ref b, .int len]) ++ List.replicate (2 - (lg_sl ([.ref b, .int len])).length) Slot.unset).toArray = ls at hl ⊢
  have hl : lv_has ls 2 [(0, .ref b), (1, .int len)] := hl
  refine lv_aload_n hx hb dX7_place_0 rfl (lv_at hl 0 rfl) ?_
  refine lv_iload_n hx hb dX7_place_1 rfl (lv_at hl 1 rfl) ?_
  refine cl_pi (rS (As := [.int len]) (rest := [.ref b]) ⟨hx, hb, hml, hown, hts⟩ (c_X7_isLength l G len) (va_cwS 1 hts gX7_place_X7_isLength rfl rfl rfl (by decide +kernel) ⟨Nat.le_of_ble_eq_true rfl, Nat.le_of_ble_eq_true rfl⟩) trivial hO rfl hl.1 (Nat.le_of_ble_eq_true rfl) dX7_place_2 ⟨Nat.le_of_ble_eq_true rfl, Nat.le_of_ble_eq_true rfl⟩) ?_
  refine lv_if_eq (tgt := 12) hx hb dX7_place_5 (by decide) (fun c_1 => ?_) (fun c_1 => ?_)
  · refine lv_iconst (v := 1) hx hb dX7_place_12 (by decide) ?_
    refine cl_mi (rV (As := [.int 1]) (rest := []) ⟨hx, hb, hml, hown, hts⟩ (c_X7_refused l G b M 1) (cwV 1 hts gX7_place_X7_refused rfl rfl rfl (by decide +kernel) ⟨Nat.le_of_ble_eq_true rfl, Nat.le_of_ble_eq_true rfl⟩) (md_recv hO hP) hP hO rfl hl.1 (Nat.le_of_ble_eq_true rfl) dX7_place_13 ⟨Nat.le_of_ble_eq_true rfl, Nat.le_of_ble_eq_true rfl⟩) hS hA (fun H locs hP1 hz hk hS => ?_)
    have hP : Md G b ((h_X7_refused M 1).2) H := hP1
    refine lv_if_eq (tgt := 21) hx hb dX7_place_16 (by decide) (fun c_2 => ?_) (fun c_2 => ?_)
    · exact absurd c_2 (ref_p1 _)
    · refine lv_iconst (v := 0) hx hb dX7_place_19 (by decide) ?_
      have hE : h_X7_place M len = (0, (h_X7_refused M 1).2) := (by rw [h_X7_place, if_pos c_1])
      have hE2 := snd_of hE
      exact W.iret hx hb hr (fun t ht hW => ⟨by rw [fst_of hE], by rw [ht, hE2]; exact hP, hS.F ht⟩) hS.2.2 dX7_place_20
  · refine lv_iconst (v := 0) hx hb dX7_place_8 (by decide) ?_
    refine lv_goto (tgt := 13) hx hb dX7_place_9 (by decide) ?_
    refine cl_mi (rV (As := [.int 0]) (rest := []) ⟨hx, hb, hml, hown, hts⟩ (c_X7_refused l G b M 0) (cwV 1 hts gX7_place_X7_refused rfl rfl rfl (by decide +kernel) ⟨Nat.le_of_ble_eq_true rfl, Nat.le_of_ble_eq_true rfl⟩) (md_recv hO hP) hP hO rfl hl.1 (Nat.le_of_ble_eq_true rfl) dX7_place_13 ⟨Nat.le_of_ble_eq_true rfl, Nat.le_of_ble_eq_true rfl⟩) hS hA (fun H locs hP1 hz hk hS => ?_)
    have hP : Md G b ((h_X7_refused M 0).2) H := hP1
    refine lv_if_eq (tgt := 21) hx hb dX7_place_16 (by decide) (fun c_3 => ?_) (fun c_3 => ?_)
    · refine lv_aload_n hx hb dX7_place_21 rfl (lv_at hl 0 rfl) ?_
      refine va_get (D := G.1) (ci := 5) (v := .ref (b + 2)) (C := RX7) (T := TX7) (N := 12) hx hb hts hin7 hown hO.1 hP 0 rfl rfl 3 (by decide) hf_13 (fun _ h9 => h9) rfl dX7_place_22 ?_
      refine lv_iconst (v := 0) hx hb dX7_place_25 (by decide) ?_
      refine lv_aload_n hx hb dX7_place_26 rfl (lv_at hl 0 rfl) ?_
      refine va_get (D := G.1) (ci := 5) (v := .ref (b + 3)) (C := RX7) (T := TX7) (N := 12) hx hb hts hin7 hown hO.1 hP 0 rfl rfl 4 (by decide) hf_16 (fun _ h9 => h9) rfl dX7_place_27 ?_
      refine lv_iconst (v := 0) hx hb dX7_place_30 (by decide) ?_
      refine cl_mv (rS (As := [.ref (b + 2), .int 0, .ref (b + 3), .int 0]) (rest := []) ⟨hx, hb, hml, hown, hts⟩ (c_X7_copyState l G (b + 2) 327 (mN ((h_X7_refused M 0).2)) (b + 3) 327 (mR ((h_X7_refused M 0).2)) 0 0 (by omega) (by omega) (by decide) (by decide) (by omega)) (va_cwS 4 hts gX7_place_X7_copyState rfl rfl rfl (by decide +kernel) ⟨Nat.le_of_ble_eq_true rfl, Nat.le_of_ble_eq_true rfl⟩) (va_P.sub hP [2, 3] rfl) hO rfl hl.1 (Nat.le_of_ble_eq_true rfl) dX7_place_31 ⟨Nat.le_of_ble_eq_true rfl, Nat.le_of_ble_eq_true rfl⟩) hS (fun q h => hA q (by simp only [two, blk] at *; omega)) (fun H locs hP1 hz hk hS => ?_)
      have hP : Md G b (oR ((h_X7_refused M 0).2) (h_X7_copyState (mN ((h_X7_refused M 0).2)) (mR ((h_X7_refused M 0).2)) 0 0)) H := md_pR (two_row 2 3 hP (md_D b ((h_X7_refused M 0).2) hA) rfl rfl hP1 hk)
      refine lv_aload_n hx hb dX7_place_34 rfl (lv_at hl 0 rfl) ?_
      refine va_get (D := G.1) (ci := 5) (v := .ref (b + 3)) (C := RX7) (T := TX7) (N := 12) hx hb hts hin7 hown hO.1 hP 0 rfl rfl 4 (by decide) hf_16 (fun _ h9 => h9) rfl dX7_place_35 ?_
      refine lv_iload_n hx hb dX7_place_38 rfl (lv_at hl 1 rfl) ?_
      refine cl_mi (rS (As := [.ref (b + 3), .int len]) (rest := []) ⟨hx, hb, hml, hown, hts⟩ (c_X7_placeFor l G (b + 3) (mR (oR ((h_X7_refused M 0).2) (h_X7_copyState (mN ((h_X7_refused M 0).2)) (mR ((h_X7_refused M 0).2)) 0 0))) len) (va_cwS 2 hts gX7_place_X7_placeFor rfl rfl rfl (by decide +kernel) ⟨Nat.le_of_ble_eq_true rfl, Nat.le_of_ble_eq_true rfl⟩) (va_P.sub hP [3] rfl) hO rfl hl.1 (Nat.le_of_ble_eq_true rfl) dX7_place_39 ⟨Nat.le_of_ble_eq_true rfl, Nat.le_of_ble_eq_true rfl⟩) hS (fun q h => hA q (by simp only [one, blk] at *; omega)) (fun H locs hP1 hz hk hS => ?_)
      have hP : Md G b (oR (oR ((h_X7_refused M 0).2) (h_X7_copyState (mN ((h_X7_refused M 0).2)) (mR ((h_X7_refused M 0).2)) 0 0)) ((h_X7_placeFor (mR (oR ((h_X7_refused M 0).2) (h_X7_copyState (mN ((h_X7_refused M 0).2)) (mR ((h_X7_refused M 0).2)) 0 0))) len).2)) H := md_pR (mo_row 3 hP rfl hP1 hk)
      have hE : h_X7_place M len = ((h_X7_placeFor (mR (oR ((h_X7_refused M 0).2) (h_X7_copyState (mN ((h_X7_refused M 0).2)) (mR ((h_X7_refused M 0).2)) 0 0))) len).1, (oR (oR ((h_X7_refused M 0).2) (h_X7_copyState (mN ((h_X7_refused M 0).2)) (mR ((h_X7_refused M 0).2)) 0 0)) ((h_X7_placeFor (mR (oR ((h_X7_refused M 0).2) (h_X7_copyState (mN ((h_X7_refused M 0).2)) (mR ((h_X7_refused M 0).2)) 0 0))) len).2))) := (by rw [h_X7_place, if_neg c_1])
      have hE2 := snd_of hE
      exact W.iret hx hb hr (fun t ht hW => ⟨by rw [fst_of hE], by rw [ht, hE2]; exact hP, hS.F ht⟩) hS.2.2 dX7_place_42
    · exact absurd (ref_0 _) c_3

def lp_about (M : Mo) (x : Int32) : Nat → Int32 → Nat → Mo → Int32 × Mo
  | 0, acc, _, M2 => (acc, M2)
  | n + 1, acc, k, M2 => if ((mN M2) 0) ≤ (nI k) then (if x = 0 then ((mN M2) 0, M2) else
      if x = 6 then ((mN M2) 1, M2) else
      if x = 7 then (nI (f_X7_gaps (mN M2)), M2) else
      if x = 8 then (nI (f_X7_longest (mN M2)), M2) else
      if x = 9 then (f_X7_cellsWith (mN M2) (-1), M2) else
      if x = 10 then (f_X7_cellsWith (mN M2) 100, M2) else
      if x = 11 then (acc, M2) else
      (f_X7_many (mN M2) (x - 1), M2)) else
    lp_about M x n (acc + (f_X7_of (mN M2) k 4)) (k + 1) M2
def h_X7_about (M : Mo) (x : Int32) : Int32 × Mo :=
  if (f_X7_in x.toInt64 0 11) = 0 then (0, (h_X7_refused M 1).2) else
  lp_about M x (gm (mN M) + 1) 0 0 ((h_X7_refused M 0).2)
set_option maxHeartbeats 4000000 in
set_option maxRecDepth 100000 in
theorem c_X7_about (l : Launch) (G : GG) (b : Nat) (M : Mo) (x : Int32) (hRI : RI (mN M)) : Met l yX7_about wsX7_about ({ frames := 3, cells := 0, slots := 0, locals := 65 }) (PcH G [.ref b, .int x] (Md G b M)) (QM (some (.int ((h_X7_about M x).1))) (Md G b ((h_X7_about M x).2)) (blk b (b + 8))) 0 0 (blk b (b + 8)) := by
  refine metH (cc := cX7_about) (maxL := 4) (ret := (some .int)) (by decide) rfl ?_
  intro p e s m below meth cd hx hb hr hml hown hts hlocks hP hO
  have hin7 : ∀ w ∈ u_ws RX7 TX7 12, w ∈ wsX7_about := by decide +kernel
  have hf_13 := hts (.fieldLink RX7 13 "CurbCarsModel" "now" "[I") (by decide +kernel)
  have hA : ∀ q, (blk b (b + 8)) q → (blk b (b + 8)) q := fun _ h => h
  have hS : va_S (blk b (b + 8)) s.heap s.heap [] := va_S.rf
  have hl := lv_entry ([.ref b, .int x]) (n := 4) (Nat.le_of_ble_eq_true rfl)
  rw [lg_entry_eq]
  generalize (lg_sl ([.ref b, .int x]) ++ List.replicate (4 - (lg_sl ([.ref b, .int x])).length) Slot.unset).toArray = ls at hl ⊢
  have hl : lv_has ls 4 [(0, .ref b), (1, .int x)] := hl
  have loop30 : ∀ (n : Nat) (acc : Int32) (k : Nat) (M2 : Mo), k ≤ gm (mN M) → k + n = gm (mN M) + 1 → M2 = (h_X7_refused M 0).2 → h_X7_about M x = lp_about M x n acc k M2 → ∀ (H : Heap) (locs : List Loc) (ls : Array Slot), Md G b M2 H → va_S (blk b (b + 8)) s.heap H locs → lv_has ls 4 [(0, .ref b), (1, .int x), (2, .int acc), (3, .int (nI k))] → W p l e (headSpec wsX7_about ({ frames := 3, cells := 0, slots := 0, locals := 65 } : Room)).room s m ([.ref b, .int x] : List Value).toArray below meth cd H locs 0 0 (MQ below (QM (some (.int ((h_X7_about M x).1))) (Md G b ((h_X7_about M x).2)) (blk b (b + 8))) ([.ref b, .int x] : List Value).toArray s 0 0 (blk b (b + 8))) (F0 m 30 ls []) := by
    intro n
    induction n with
    | zero =>
      intro acc k M2 hk hn hM2 hR H locs ls hP hS hl
      exact absurd hn (by omega)
    | succ n ih =>
      intro acc k M2 hk hn hM2 hR H locs ls hP hS hl
      refine lv_iload_n hx hb dX7_about_30 rfl (lv_at hl 3 rfl) ?_
      refine lv_aload_n hx hb dX7_about_31 rfl (lv_at hl 0 rfl) ?_
      refine va_get (D := G.1) (ci := 5) (v := .ref (b + 2)) (C := RX7) (T := TX7) (N := 12) hx hb hts hin7 hown hO.1 hP 0 rfl rfl 3 (by decide) hf_13 (fun _ h9 => h9) rfl dX7_about_32 ?_
      refine lv_iconst (v := 0) hx hb dX7_about_35 (by decide) ?_
      refine iald_n (k := 0) hx hb hO.1 hP 2 0 rfl rfl (by omega) (by decide) dX7_about_36 ?_
      refine lv_icmp_ge (tgt := 58) hx hb dX7_about_37 (by decide) (fun c_1 => ?_) (fun c_1 => ?_)
      · refine lv_iload_n hx hb dX7_about_58 rfl (lv_at hl 1 rfl) ?_
        by_cases c_2 : x = 0
        · refine lv_tableIn (off := 61) (tgt := 120) hx hb dX7_about_59 (by rw [c_2]; decide) (by rw [c_2]; decide) (by rw [c_2]; decide +kernel) (by decide) ?_
          refine lv_aload_n hx hb dX7_about_120 rfl (lv_at hl 0 rfl) ?_
          refine va_get (D := G.1) (ci := 5) (v := .ref (b + 2)) (C := RX7) (T := TX7) (N := 12) hx hb hts hin7 hown hO.1 hP 0 rfl rfl 3 (by decide) hf_13 (fun _ h9 => h9) rfl dX7_about_121 ?_
          refine lv_iconst (v := 0) hx hb dX7_about_124 (by decide) ?_
          refine iald_n (k := 0) hx hb hO.1 hP 2 0 rfl rfl (by omega) (by decide) dX7_about_125 ?_
          have hE : h_X7_about M x = ((mN M2) 0, M2) := (hR.trans (by rw [lp_about, if_pos c_1, if_pos c_2]))
          have hE2 := snd_of hE
          exact W.iret hx hb hr (fun t ht hW => ⟨by rw [fst_of hE], by rw [ht, hE2]; exact hP, hS.F ht⟩) hS.2.2 dX7_about_126
        by_cases c_3 : x = 6
        · refine lv_tableIn (off := 68) (tgt := 127) hx hb dX7_about_59 (by rw [c_3]; decide) (by rw [c_3]; decide) (by rw [c_3]; decide +kernel) (by decide) ?_
          refine lv_aload_n hx hb dX7_about_127 rfl (lv_at hl 0 rfl) ?_
          refine va_get (D := G.1) (ci := 5) (v := .ref (b + 2)) (C := RX7) (T := TX7) (N := 12) hx hb hts hin7 hown hO.1 hP 0 rfl rfl 3 (by decide) hf_13 (fun _ h9 => h9) rfl dX7_about_128 ?_
          refine lv_iconst (v := 1) hx hb dX7_about_131 (by decide) ?_
          refine iald_n (k := 1) hx hb hO.1 hP 2 0 rfl rfl (by omega) (by decide) dX7_about_132 ?_
          have hE : h_X7_about M x = ((mN M2) 1, M2) := (hR.trans (by rw [lp_about, if_pos c_1, if_neg c_2, if_pos c_3]))
          have hE2 := snd_of hE
          exact W.iret hx hb hr (fun t ht hW => ⟨by rw [fst_of hE], by rw [ht, hE2]; exact hP, hS.F ht⟩) hS.2.2 dX7_about_133
        by_cases c_4 : x = 7
        · refine lv_tableIn (off := 75) (tgt := 134) hx hb dX7_about_59 (by rw [c_4]; decide) (by rw [c_4]; decide) (by rw [c_4]; decide +kernel) (by decide) ?_
          refine lv_aload_n hx hb dX7_about_134 rfl (lv_at hl 0 rfl) ?_
          refine va_get (D := G.1) (ci := 5) (v := .ref (b + 2)) (C := RX7) (T := TX7) (N := 12) hx hb hts hin7 hown hO.1 hP 0 rfl rfl 3 (by decide) hf_13 (fun _ h9 => h9) rfl dX7_about_135 ?_
          refine cl_pi (rS (As := [.ref (b + 2)]) (rest := []) ⟨hx, hb, hml, hown, hts⟩ (c_X7_gaps l G (b + 2) (mN M2)) (va_cwS 1 hts gX7_about_X7_gaps rfl rfl rfl (by decide +kernel) ⟨Nat.le_of_ble_eq_true rfl, Nat.le_of_ble_eq_true rfl⟩) (va_P.sub hP [2] rfl) hO rfl hl.1 (Nat.le_of_ble_eq_true rfl) dX7_about_138 ⟨Nat.le_of_ble_eq_true rfl, Nat.le_of_ble_eq_true rfl⟩) ?_
          have hE : h_X7_about M x = (nI (f_X7_gaps (mN M2)), M2) := (hR.trans (by rw [lp_about, if_pos c_1, if_neg c_2, if_neg c_3, if_pos c_4]))
          have hE2 := snd_of hE
          exact W.iret hx hb hr (fun t ht hW => ⟨by rw [fst_of hE], by rw [ht, hE2]; exact hP, hS.F ht⟩) hS.2.2 dX7_about_141
        by_cases c_5 : x = 8
        · refine lv_tableIn (off := 83) (tgt := 142) hx hb dX7_about_59 (by rw [c_5]; decide) (by rw [c_5]; decide) (by rw [c_5]; decide +kernel) (by decide) ?_
          refine lv_aload_n hx hb dX7_about_142 rfl (lv_at hl 0 rfl) ?_
          refine va_get (D := G.1) (ci := 5) (v := .ref (b + 2)) (C := RX7) (T := TX7) (N := 12) hx hb hts hin7 hown hO.1 hP 0 rfl rfl 3 (by decide) hf_13 (fun _ h9 => h9) rfl dX7_about_143 ?_
          refine cl_pi (rS (As := [.ref (b + 2)]) (rest := []) ⟨hx, hb, hml, hown, hts⟩ (c_X7_longest l G (b + 2) (mN M2)) (va_cwS 1 hts gX7_about_X7_longest rfl rfl rfl (by decide +kernel) ⟨Nat.le_of_ble_eq_true rfl, Nat.le_of_ble_eq_true rfl⟩) (va_P.sub hP [2] rfl) hO rfl hl.1 (Nat.le_of_ble_eq_true rfl) dX7_about_146 ⟨Nat.le_of_ble_eq_true rfl, Nat.le_of_ble_eq_true rfl⟩) ?_
          have hE : h_X7_about M x = (nI (f_X7_longest (mN M2)), M2) := (hR.trans (by rw [lp_about, if_pos c_1, if_neg c_2, if_neg c_3, if_neg c_4, if_pos c_5]))
          have hE2 := snd_of hE
          exact W.iret hx hb hr (fun t ht hW => ⟨by rw [fst_of hE], by rw [ht, hE2]; exact hP, hS.F ht⟩) hS.2.2 dX7_about_149
        by_cases c_6 : x = 9
        · refine lv_tableIn (off := 91) (tgt := 150) hx hb dX7_about_59 (by rw [c_6]; decide) (by rw [c_6]; decide) (by rw [c_6]; decide +kernel) (by decide) ?_
          refine lv_aload_n hx hb dX7_about_150 rfl (lv_at hl 0 rfl) ?_
          refine va_get (D := G.1) (ci := 5) (v := .ref (b + 2)) (C := RX7) (T := TX7) (N := 12) hx hb hts hin7 hown hO.1 hP 0 rfl rfl 3 (by decide) hf_13 (fun _ h9 => h9) rfl dX7_about_151 ?_
          refine lv_iconst (v := -1) hx hb dX7_about_154 (by decide) ?_
          refine cl_pi (rS (As := [.ref (b + 2), .int (-1)]) (rest := []) ⟨hx, hb, hml, hown, hts⟩ (c_X7_cellsWith l G (b + 2) (mN M2) (-1)) (va_cwS 2 hts gX7_about_X7_cellsWith rfl rfl rfl (by decide +kernel) ⟨Nat.le_of_ble_eq_true rfl, Nat.le_of_ble_eq_true rfl⟩) (va_P.sub hP [2] rfl) hO rfl hl.1 (Nat.le_of_ble_eq_true rfl) dX7_about_155 ⟨Nat.le_of_ble_eq_true rfl, Nat.le_of_ble_eq_true rfl⟩) ?_
          have hE : h_X7_about M x = (f_X7_cellsWith (mN M2) (-1), M2) := (hR.trans (by rw [lp_about, if_pos c_1, if_neg c_2, if_neg c_3, if_neg c_4, if_neg c_5, if_pos c_6]))
          have hE2 := snd_of hE
          exact W.iret hx hb hr (fun t ht hW => ⟨by rw [fst_of hE], by rw [ht, hE2]; exact hP, hS.F ht⟩) hS.2.2 dX7_about_158
        by_cases c_7 : x = 10
        · refine lv_tableIn (off := 100) (tgt := 159) hx hb dX7_about_59 (by rw [c_7]; decide) (by rw [c_7]; decide) (by rw [c_7]; decide +kernel) (by decide) ?_
          refine lv_aload_n hx hb dX7_about_159 rfl (lv_at hl 0 rfl) ?_
          refine va_get (D := G.1) (ci := 5) (v := .ref (b + 2)) (C := RX7) (T := TX7) (N := 12) hx hb hts hin7 hown hO.1 hP 0 rfl rfl 3 (by decide) hf_13 (fun _ h9 => h9) rfl dX7_about_160 ?_
          refine lv_bipush (v := 100) hx hb dX7_about_163 (by decide) ?_
          refine cl_pi (rS (As := [.ref (b + 2), .int 100]) (rest := []) ⟨hx, hb, hml, hown, hts⟩ (c_X7_cellsWith l G (b + 2) (mN M2) 100) (va_cwS 2 hts gX7_about_X7_cellsWith rfl rfl rfl (by decide +kernel) ⟨Nat.le_of_ble_eq_true rfl, Nat.le_of_ble_eq_true rfl⟩) (va_P.sub hP [2] rfl) hO rfl hl.1 (Nat.le_of_ble_eq_true rfl) dX7_about_165 ⟨Nat.le_of_ble_eq_true rfl, Nat.le_of_ble_eq_true rfl⟩) ?_
          have hE : h_X7_about M x = (f_X7_cellsWith (mN M2) 100, M2) := (hR.trans (by rw [lp_about, if_pos c_1, if_neg c_2, if_neg c_3, if_neg c_4, if_neg c_5, if_neg c_6, if_pos c_7]))
          have hE2 := snd_of hE
          exact W.iret hx hb hr (fun t ht hW => ⟨by rw [fst_of hE], by rw [ht, hE2]; exact hP, hS.F ht⟩) hS.2.2 dX7_about_168
        by_cases c_8 : x = 11
        · refine lv_tableIn (off := 110) (tgt := 169) hx hb dX7_about_59 (by rw [c_8]; decide) (by rw [c_8]; decide) (by rw [c_8]; decide +kernel) (by decide) ?_
          refine lv_iload_n hx hb dX7_about_169 rfl (lv_at hl 2 rfl) ?_
          have hE : h_X7_about M x = (acc, M2) := (hR.trans (by rw [lp_about, if_pos c_1, if_neg c_2, if_neg c_3, if_neg c_4, if_neg c_5, if_neg c_6, if_neg c_7, if_pos c_8]))
          have hE2 := snd_of hE
          exact W.iret hx hb hr (fun t ht hW => ⟨by rw [fst_of hE], by rw [ht, hE2]; exact hP, hS.F ht⟩) hS.2.2 dX7_about_170
        refine lv_tableD (tgt := 171) hx hb dX7_about_59 (by intro i h1 h2 h3; rcases (show i = 0 ∨ i = 1 ∨ i = 2 ∨ i = 3 ∨ i = 4 ∨ i = 5 ∨ i = 6 ∨ i = 7 ∨ i = 8 ∨ i = 9 ∨ i = 10 ∨ i = 11 by omega) with rfl | rfl | rfl | rfl | rfl | rfl | rfl | rfl | rfl | rfl | rfl | rfl; all_goals first | decide +kernel | (clear h1 h2; first | exact absurd (Int32.toInt_inj.mp (h3.symm.trans (show (0 : Int) = (0 : Int32).toInt by decide))) c_2 | exact absurd (Int32.toInt_inj.mp (h3.symm.trans (show (6 : Int) = (6 : Int32).toInt by decide))) c_3 | exact absurd (Int32.toInt_inj.mp (h3.symm.trans (show (7 : Int) = (7 : Int32).toInt by decide))) c_4 | exact absurd (Int32.toInt_inj.mp (h3.symm.trans (show (8 : Int) = (8 : Int32).toInt by decide))) c_5 | exact absurd (Int32.toInt_inj.mp (h3.symm.trans (show (9 : Int) = (9 : Int32).toInt by decide))) c_6 | exact absurd (Int32.toInt_inj.mp (h3.symm.trans (show (10 : Int) = (10 : Int32).toInt by decide))) c_7 | exact absurd (Int32.toInt_inj.mp (h3.symm.trans (show (11 : Int) = (11 : Int32).toInt by decide))) c_8)) (by decide) ?_
        refine lv_aload_n hx hb dX7_about_171 rfl (lv_at hl 0 rfl) ?_
        refine va_get (D := G.1) (ci := 5) (v := .ref (b + 2)) (C := RX7) (T := TX7) (N := 12) hx hb hts hin7 hown hO.1 hP 0 rfl rfl 3 (by decide) hf_13 (fun _ h9 => h9) rfl dX7_about_172 ?_
        refine lv_iload_n hx hb dX7_about_175 rfl (lv_at hl 1 rfl) ?_
        refine lv_iconst (v := 1) hx hb dX7_about_176 (by decide) ?_
        refine lv_isub hx hb dX7_about_177 ?_
        refine cl_pi (rS (As := [.ref (b + 2), .int (x - 1)]) (rest := []) ⟨hx, hb, hml, hown, hts⟩ (c_X7_many l G (b + 2) (mN M2) (x - 1) (show RI (mN M2) by rw [hM2, ref_N]; exact hRI).m.2) (va_cwS 2 hts gX7_about_X7_many rfl rfl rfl (by decide +kernel) ⟨Nat.le_of_ble_eq_true rfl, Nat.le_of_ble_eq_true rfl⟩) (va_P.sub hP [2] rfl) hO rfl hl.1 (Nat.le_of_ble_eq_true rfl) dX7_about_178 ⟨Nat.le_of_ble_eq_true rfl, Nat.le_of_ble_eq_true rfl⟩) ?_
        have hE : h_X7_about M x = (f_X7_many (mN M2) (x - 1), M2) := (hR.trans (by rw [lp_about, if_pos c_1, if_neg c_2, if_neg c_3, if_neg c_4, if_neg c_5, if_neg c_6, if_neg c_7, if_neg c_8]))
        have hE2 := snd_of hE
        exact W.iret hx hb hr (fun t ht hW => ⟨by rw [fst_of hE], by rw [ht, hE2]; exact hP, hS.F ht⟩) hS.2.2 dX7_about_181
      · have hlt : k < gm (mN M) ∧ k < 40 := (by have h9 : k < gm (mN M2) := kV c_1 (by have h8 := hRI.m.2; omega); rw [hM2, ref_N] at h9; have h8 := hRI.m.2; omega)
        refine lv_iload_n hx hb dX7_about_40 rfl (lv_at hl 2 rfl) ?_
        refine lv_aload_n hx hb dX7_about_41 rfl (lv_at hl 0 rfl) ?_
        refine va_get (D := G.1) (ci := 5) (v := .ref (b + 2)) (C := RX7) (T := TX7) (N := 12) hx hb hts hin7 hown hO.1 hP 0 rfl rfl 3 (by decide) hf_13 (fun _ h9 => h9) rfl dX7_about_42 ?_
        refine lv_iload_n hx hb dX7_about_45 rfl (lv_at hl 3 rfl) ?_
        refine lv_iconst (v := 4) hx hb dX7_about_46 (by decide) ?_
        refine cl_pi (rS (As := [.ref (b + 2), .int (nI k), .int 4]) (rest := [.int acc]) ⟨hx, hb, hml, hown, hts⟩ (c_X7_of l G (b + 2) (mN M2) k 4 (by omega)) (va_cwS 3 hts gX7_about_X7_of rfl rfl rfl (by decide +kernel) ⟨Nat.le_of_ble_eq_true rfl, Nat.le_of_ble_eq_true rfl⟩) (va_P.sub hP [2] rfl) hO rfl hl.1 (Nat.le_of_ble_eq_true rfl) dX7_about_47 ⟨Nat.le_of_ble_eq_true rfl, Nat.le_of_ble_eq_true rfl⟩) ?_
        refine lv_iadd hx hb dX7_about_50 ?_
        refine lv_istore_n (lv' := [(2, .int (acc + (f_X7_of (mN M2) k 4))), (0, .ref b), (1, .int x), (3, .int (nI k))]) hx hb dX7_about_51 rfl hl (by decide) rfl (fun ls hl => ?_)
        refine lv_iinc (v := nI (k + 1)) (lv' := [(3, .int (nI (k + 1))), (2, .int (acc + (f_X7_of (mN M2) k 4))), (0, .ref b), (1, .int x)]) hx hb dX7_about_52 hl (k := 3) rfl (nI_1 _) (by decide) rfl (fun ls hl => ?_)
        refine lv_goto (tgt := 30) hx hb dX7_about_55 (by decide) ?_
        have hE_9 : h_X7_about M x = lp_about M x n (acc + (f_X7_of (mN M2) k 4)) (k + 1) M2 := (hR.trans (by rw [lp_about, if_neg c_1]))
        exact ih (acc + (f_X7_of (mN M2) k 4)) (k + 1) M2 (by omega) (by omega) hM2 hE_9 _ _ _ hP hS (lv_sub hl [2, 3, 1, 0] rfl)
  refine lv_aload_n hx hb dX7_about_0 rfl (lv_at hl 0 rfl) ?_
  refine lv_iload_n hx hb dX7_about_1 rfl (lv_at hl 1 rfl) ?_
  refine lv_i2l (v := x.toInt64) hx hb dX7_about_2 rfl ?_
  refine lv_lconst (v := 0) hx hb dX7_about_3 (by decide) ?_
  refine lv_ldc2 (v := 11) hx hb hown (hts (.constantLong RX7 205 (11)) (by decide +kernel)) dX7_about_4 ?_
  refine cl_pi (rS (As := [.long x.toInt64, .long 0, .long 11]) (rest := [.ref b]) ⟨hx, hb, hml, hown, hts⟩ (c_X7_in l G x.toInt64 0 11) (va_cwS 3 hts gX7_about_X7_in rfl rfl rfl (by decide +kernel) ⟨Nat.le_of_ble_eq_true rfl, Nat.le_of_ble_eq_true rfl⟩) trivial hO rfl hl.1 (Nat.le_of_ble_eq_true rfl) dX7_about_7 ⟨Nat.le_of_ble_eq_true rfl, Nat.le_of_ble_eq_true rfl⟩) ?_
  refine lv_if_eq (tgt := 17) hx hb dX7_about_10 (by decide) (fun c_10 => ?_) (fun c_10 => ?_)
  · refine lv_iconst (v := 1) hx hb dX7_about_17 (by decide) ?_
    refine cl_mi (rV (As := [.int 1]) (rest := []) ⟨hx, hb, hml, hown, hts⟩ (c_X7_refused l G b M 1) (cwV 1 hts gX7_about_X7_refused rfl rfl rfl (by decide +kernel) ⟨Nat.le_of_ble_eq_true rfl, Nat.le_of_ble_eq_true rfl⟩) (md_recv hO hP) hP hO rfl hl.1 (Nat.le_of_ble_eq_true rfl) dX7_about_18 ⟨Nat.le_of_ble_eq_true rfl, Nat.le_of_ble_eq_true rfl⟩) hS hA (fun H locs hP1 hz hk hS => ?_)
    have hP : Md G b ((h_X7_refused M 1).2) H := hP1
    refine lv_if_eq (tgt := 26) hx hb dX7_about_21 (by decide) (fun c_11 => ?_) (fun c_11 => ?_)
    · exact absurd c_11 (ref_p1 _)
    · refine lv_iconst (v := 0) hx hb dX7_about_24 (by decide) ?_
      have hE : h_X7_about M x = (0, (h_X7_refused M 1).2) := (by rw [h_X7_about, if_pos c_10])
      have hE2 := snd_of hE
      exact W.iret hx hb hr (fun t ht hW => ⟨by rw [fst_of hE], by rw [ht, hE2]; exact hP, hS.F ht⟩) hS.2.2 dX7_about_25
  · refine lv_iconst (v := 0) hx hb dX7_about_13 (by decide) ?_
    refine lv_goto (tgt := 18) hx hb dX7_about_14 (by decide) ?_
    refine cl_mi (rV (As := [.int 0]) (rest := []) ⟨hx, hb, hml, hown, hts⟩ (c_X7_refused l G b M 0) (cwV 1 hts gX7_about_X7_refused rfl rfl rfl (by decide +kernel) ⟨Nat.le_of_ble_eq_true rfl, Nat.le_of_ble_eq_true rfl⟩) (md_recv hO hP) hP hO rfl hl.1 (Nat.le_of_ble_eq_true rfl) dX7_about_18 ⟨Nat.le_of_ble_eq_true rfl, Nat.le_of_ble_eq_true rfl⟩) hS hA (fun H locs hP1 hz hk hS => ?_)
    have hP : Md G b ((h_X7_refused M 0).2) H := hP1
    refine lv_if_eq (tgt := 26) hx hb dX7_about_21 (by decide) (fun c_12 => ?_) (fun c_12 => ?_)
    · refine lv_iconst (v := 0) hx hb dX7_about_26 (by decide) ?_
      refine lv_istore_n (lv' := [(2, .int 0), (0, .ref b), (1, .int x)]) hx hb dX7_about_27 rfl hl (by decide) rfl (fun ls hl => ?_)
      refine lv_iconst (v := 0) hx hb dX7_about_28 (by decide) ?_
      refine lv_istore_n (lv' := [(3, .int 0), (2, .int 0), (0, .ref b), (1, .int x)]) hx hb dX7_about_29 rfl hl (by decide) rfl (fun ls hl => ?_)
      have hE_13 : h_X7_about M x = lp_about M x (gm (mN M) + 1) 0 0 ((h_X7_refused M 0).2) := (by rw [h_X7_about, if_neg c_10])
      exact loop30 (gm (mN M) + 1) 0 0 ((h_X7_refused M 0).2) (Nat.zero_le _) (by omega) rfl hE_13 _ _ _ hP hS (lv_sub hl [2, 3, 1, 0] rfl)
    · exact absurd (ref_0 _) c_12

theorem gapOf_lp (g : Rw) (kk : Int32) : ∀ (n i k : Nat), k ≤ 80 → lp_rGapOf g kk n i k ≤ 80 := by
  intro n
  induction n with
  | zero => intro i k hk; exact hk
  | succ n ih =>
    intro i k hk
    rw [lp_rGapOf]
    split
    · exact hk
    · split
      · exact hk
      · rename_i c1
        exact ih _ _ (next_gt g (kN (B := 80) c1 (by omega) (by omega))).2
theorem gapOf_le (g : Rw) (kk : Int32) : f_X7_gapOf g kk ≤ 80 := gapOf_lp g kk _ _ _ (from_le g (by omega)).2

def h_X7_gap (M : Mo) (kk : Int32) (w : Int32) : Int32 × Mo :=
  if 0 ≤ kk then (if (nI (f_X7_gapOf (mN M) kk)) = 80 then (0, (h_X7_refused M 1).2) else
    if (f_X7_in w.toInt64 0 1) = 0 then (0, (h_X7_refused M 2).2) else
    if w = 0 then (nI (f_X7_gapOf (mN M) kk), (h_X7_refused M 0).2) else
    (nI (f_X7_gapCells (mN ((h_X7_refused M 0).2)) (f_X7_gapOf (mN M) kk)), (h_X7_refused M 0).2)) else
  if (80 : Int32) = 80 then (0, (h_X7_refused M 1).2) else
  if (f_X7_in w.toInt64 0 1) = 0 then (0, (h_X7_refused M 2).2) else
  if w = 0 then (80, (h_X7_refused M 0).2) else
  (nI (f_X7_gapCells (mN ((h_X7_refused M 0).2)) 80), (h_X7_refused M 0).2)
set_option maxHeartbeats 4000000 in
set_option maxRecDepth 100000 in
theorem c_X7_gap (l : Launch) (G : GG) (b : Nat) (M : Mo) (kk : Int32) (w : Int32) : Met l yX7_gap wsX7_gap ({ frames := 3, cells := 0, slots := 0, locals := 66 }) (PcH G [.ref b, .int kk, .int w] (Md G b M)) (QM (some (.int ((h_X7_gap M kk w).1))) (Md G b ((h_X7_gap M kk w).2)) (blk b (b + 8))) 0 0 (blk b (b + 8)) := by
  refine metH (cc := cX7_gap) (maxL := 4) (ret := (some .int)) (by decide) rfl ?_
  intro p e s m below meth cd hx hb hr hml hown hts hlocks hP hO
  have hin7 : ∀ w ∈ u_ws RX7 TX7 12, w ∈ wsX7_gap := by decide +kernel
  have hf_13 := hts (.fieldLink RX7 13 "CurbCarsModel" "now" "[I") (by decide +kernel)
  have hA : ∀ q, (blk b (b + 8)) q → (blk b (b + 8)) q := fun _ h => h
  have hS : va_S (blk b (b + 8)) s.heap s.heap [] := va_S.rf
  have hl := lv_entry ([.ref b, .int kk, .int w]) (n := 4) (Nat.le_of_ble_eq_true rfl)
  rw [lg_entry_eq]
  generalize (lg_sl ([.ref b, .int kk, .int w]) ++ List.replicate (4 - (lg_sl ([.ref b, .int kk, .int w])).length) Slot.unset).toArray = ls at hl ⊢
  have hl : lv_has ls 4 [(0, .ref b), (1, .int kk), (2, .int w)] := hl
  refine lv_iload_n hx hb dX7_gap_0 rfl (lv_at hl 1 rfl) ?_
  refine lv_if_ge (tgt := 9) hx hb dX7_gap_1 (by decide) (fun c_1 => ?_) (fun c_1 => ?_)
  · refine lv_aload_n hx hb dX7_gap_9 rfl (lv_at hl 0 rfl) ?_
    refine va_get (D := G.1) (ci := 5) (v := .ref (b + 2)) (C := RX7) (T := TX7) (N := 12) hx hb hts hin7 hown hO.1 hP 0 rfl rfl 3 (by decide) hf_13 (fun _ h9 => h9) rfl dX7_gap_10 ?_
    refine lv_iload_n hx hb dX7_gap_13 rfl (lv_at hl 1 rfl) ?_
    refine cl_pi (rS (As := [.ref (b + 2), .int kk]) (rest := []) ⟨hx, hb, hml, hown, hts⟩ (c_X7_gapOf l G (b + 2) (mN M) kk) (va_cwS 2 hts gX7_gap_X7_gapOf rfl rfl rfl (by decide +kernel) ⟨Nat.le_of_ble_eq_true rfl, Nat.le_of_ble_eq_true rfl⟩) (va_P.sub hP [2] rfl) hO rfl hl.1 (Nat.le_of_ble_eq_true rfl) dX7_gap_14 ⟨Nat.le_of_ble_eq_true rfl, Nat.le_of_ble_eq_true rfl⟩) ?_
    refine lv_istore_n (lv' := [(3, .int (nI (f_X7_gapOf (mN M) kk))), (0, .ref b), (1, .int kk), (2, .int w)]) hx hb dX7_gap_17 rfl hl (by decide) rfl (fun ls hl => ?_)
    refine lv_aload_n hx hb dX7_gap_18 rfl (lv_at hl 1 rfl) ?_
    refine lv_iload_n hx hb dX7_gap_19 rfl (lv_at hl 0 rfl) ?_
    refine lv_bipush (v := 80) hx hb dX7_gap_20 (by decide) ?_
    refine lv_icmp_ne (tgt := 29) hx hb dX7_gap_22 (by decide) (fun c_2 => ?_) (fun c_2 => ?_)
    · refine lv_iload_n hx hb dX7_gap_29 rfl (lv_at hl 3 rfl) ?_
      refine lv_i2l (v := w.toInt64) hx hb dX7_gap_30 rfl ?_
      refine lv_lconst (v := 0) hx hb dX7_gap_31 (by decide) ?_
      refine lv_lconst (v := 1) hx hb dX7_gap_32 (by decide) ?_
      refine cl_pi (rS (As := [.long w.toInt64, .long 0, .long 1]) (rest := [.ref b]) ⟨hx, hb, hml, hown, hts⟩ (c_X7_in l G w.toInt64 0 1) (va_cwS 3 hts gX7_gap_X7_in rfl rfl rfl (by decide +kernel) ⟨Nat.le_of_ble_eq_true rfl, Nat.le_of_ble_eq_true rfl⟩) trivial hO rfl hl.1 (Nat.le_of_ble_eq_true rfl) dX7_gap_33 ⟨Nat.le_of_ble_eq_true rfl, Nat.le_of_ble_eq_true rfl⟩) ?_
      refine lv_if_eq (tgt := 43) hx hb dX7_gap_36 (by decide) (fun c_3 => ?_) (fun c_3 => ?_)
      · refine lv_iconst (v := 2) hx hb dX7_gap_43 (by decide) ?_
        refine cl_mi (rV (As := [.int 2]) (rest := []) ⟨hx, hb, hml, hown, hts⟩ (c_X7_refused l G b M 2) (cwV 1 hts gX7_gap_X7_refused rfl rfl rfl (by decide +kernel) ⟨Nat.le_of_ble_eq_true rfl, Nat.le_of_ble_eq_true rfl⟩) (md_recv hO hP) hP hO rfl hl.1 (Nat.le_of_ble_eq_true rfl) dX7_gap_44 ⟨Nat.le_of_ble_eq_true rfl, Nat.le_of_ble_eq_true rfl⟩) hS hA (fun H locs hP1 hz hk hS => ?_)
        have hP : Md G b ((h_X7_refused M 2).2) H := hP1
        refine lv_if_eq (tgt := 52) hx hb dX7_gap_47 (by decide) (fun c_4 => ?_) (fun c_4 => ?_)
        · exact absurd c_4 (ref_p2 _)
        · refine lv_iconst (v := 0) hx hb dX7_gap_50 (by decide) ?_
          have hE : h_X7_gap M kk w = (0, (h_X7_refused M 2).2) := (by rw [h_X7_gap, if_pos c_1, if_neg c_2, if_pos c_3])
          have hE2 := snd_of hE
          exact W.iret hx hb hr (fun t ht hW => ⟨by rw [fst_of hE], by rw [ht, hE2]; exact hP, hS.F ht⟩) hS.2.2 dX7_gap_51
      · refine lv_iconst (v := 0) hx hb dX7_gap_39 (by decide) ?_
        refine lv_goto (tgt := 44) hx hb dX7_gap_40 (by decide) ?_
        refine cl_mi (rV (As := [.int 0]) (rest := []) ⟨hx, hb, hml, hown, hts⟩ (c_X7_refused l G b M 0) (cwV 1 hts gX7_gap_X7_refused rfl rfl rfl (by decide +kernel) ⟨Nat.le_of_ble_eq_true rfl, Nat.le_of_ble_eq_true rfl⟩) (md_recv hO hP) hP hO rfl hl.1 (Nat.le_of_ble_eq_true rfl) dX7_gap_44 ⟨Nat.le_of_ble_eq_true rfl, Nat.le_of_ble_eq_true rfl⟩) hS hA (fun H locs hP1 hz hk hS => ?_)
        have hP : Md G b ((h_X7_refused M 0).2) H := hP1
        refine lv_if_eq (tgt := 52) hx hb dX7_gap_47 (by decide) (fun c_5 => ?_) (fun c_5 => ?_)
        · refine lv_iload_n hx hb dX7_gap_52 rfl (lv_at hl 3 rfl) ?_
          refine lv_if_ne (tgt := 60) hx hb dX7_gap_53 (by decide) (fun c_6 => ?_) (fun c_6 => ?_)
          · refine lv_aload_n hx hb dX7_gap_60 rfl (lv_at hl 1 rfl) ?_
            refine va_get (D := G.1) (ci := 5) (v := .ref (b + 2)) (C := RX7) (T := TX7) (N := 12) hx hb hts hin7 hown hO.1 hP 0 rfl rfl 3 (by decide) hf_13 (fun _ h9 => h9) rfl dX7_gap_61 ?_
            refine lv_iload_n hx hb dX7_gap_64 rfl (lv_at hl 0 rfl) ?_
            refine cl_pi (rS (As := [.ref (b + 2), .int (nI (f_X7_gapOf (mN M) kk))]) (rest := []) ⟨hx, hb, hml, hown, hts⟩ (c_X7_gapCells l G (b + 2) (mN ((h_X7_refused M 0).2)) (f_X7_gapOf (mN M) kk) (by first | exact gapOf_le _ _ | omega)) (va_cwS 2 hts gX7_gap_X7_gapCells rfl rfl rfl (by decide +kernel) ⟨Nat.le_of_ble_eq_true rfl, Nat.le_of_ble_eq_true rfl⟩) (va_P.sub hP [2] rfl) hO rfl hl.1 (Nat.le_of_ble_eq_true rfl) dX7_gap_65 ⟨Nat.le_of_ble_eq_true rfl, Nat.le_of_ble_eq_true rfl⟩) ?_
            have hE : h_X7_gap M kk w = (nI (f_X7_gapCells (mN ((h_X7_refused M 0).2)) (f_X7_gapOf (mN M) kk)), (h_X7_refused M 0).2) := (by rw [h_X7_gap, if_pos c_1, if_neg c_2, if_neg c_3, if_neg c_6])
            have hE2 := snd_of hE
            exact W.iret hx hb hr (fun t ht hW => ⟨by rw [fst_of hE], by rw [ht, hE2]; exact hP, hS.F ht⟩) hS.2.2 dX7_gap_68
          · refine lv_iload_n hx hb dX7_gap_56 rfl (lv_at hl 0 rfl) ?_
            refine lv_goto (tgt := 68) hx hb dX7_gap_57 (by decide) ?_
            have hE : h_X7_gap M kk w = (nI (f_X7_gapOf (mN M) kk), (h_X7_refused M 0).2) := (by rw [h_X7_gap, if_pos c_1, if_neg c_2, if_neg c_3, if_pos c_6])
            have hE2 := snd_of hE
            exact W.iret hx hb hr (fun t ht hW => ⟨by rw [fst_of hE], by rw [ht, hE2]; exact hP, hS.F ht⟩) hS.2.2 dX7_gap_68
        · exact absurd (ref_0 _) c_5
    · refine lv_iconst (v := 1) hx hb dX7_gap_25 (by decide) ?_
      refine lv_goto (tgt := 44) hx hb dX7_gap_26 (by decide) ?_
      refine cl_mi (rV (As := [.int 1]) (rest := []) ⟨hx, hb, hml, hown, hts⟩ (c_X7_refused l G b M 1) (cwV 1 hts gX7_gap_X7_refused rfl rfl rfl (by decide +kernel) ⟨Nat.le_of_ble_eq_true rfl, Nat.le_of_ble_eq_true rfl⟩) (md_recv hO hP) hP hO rfl hl.1 (Nat.le_of_ble_eq_true rfl) dX7_gap_44 ⟨Nat.le_of_ble_eq_true rfl, Nat.le_of_ble_eq_true rfl⟩) hS hA (fun H locs hP1 hz hk hS => ?_)
      have hP : Md G b ((h_X7_refused M 1).2) H := hP1
      refine lv_if_eq (tgt := 52) hx hb dX7_gap_47 (by decide) (fun c_7 => ?_) (fun c_7 => ?_)
      · exact absurd c_7 (ref_p1 _)
      · refine lv_iconst (v := 0) hx hb dX7_gap_50 (by decide) ?_
        have hE : h_X7_gap M kk w = (0, (h_X7_refused M 1).2) := (by rw [h_X7_gap, if_pos c_1, if_pos c_2])
        have hE2 := snd_of hE
        exact W.iret hx hb hr (fun t ht hW => ⟨by rw [fst_of hE], by rw [ht, hE2]; exact hP, hS.F ht⟩) hS.2.2 dX7_gap_51
  · refine lv_bipush (v := 80) hx hb dX7_gap_4 (by decide) ?_
    refine lv_goto (tgt := 17) hx hb dX7_gap_6 (by decide) ?_
    refine lv_istore_n (lv' := [(3, .int 80), (0, .ref b), (1, .int kk), (2, .int w)]) hx hb dX7_gap_17 rfl hl (by decide) rfl (fun ls hl => ?_)
    refine lv_aload_n hx hb dX7_gap_18 rfl (lv_at hl 1 rfl) ?_
    refine lv_iload_n hx hb dX7_gap_19 rfl (lv_at hl 0 rfl) ?_
    refine lv_bipush (v := 80) hx hb dX7_gap_20 (by decide) ?_
    refine lv_icmp_ne (tgt := 29) hx hb dX7_gap_22 (by decide) (fun c_8 => ?_) (fun c_8 => ?_)
    · refine lv_iload_n hx hb dX7_gap_29 rfl (lv_at hl 3 rfl) ?_
      refine lv_i2l (v := w.toInt64) hx hb dX7_gap_30 rfl ?_
      refine lv_lconst (v := 0) hx hb dX7_gap_31 (by decide) ?_
      refine lv_lconst (v := 1) hx hb dX7_gap_32 (by decide) ?_
      refine cl_pi (rS (As := [.long w.toInt64, .long 0, .long 1]) (rest := [.ref b]) ⟨hx, hb, hml, hown, hts⟩ (c_X7_in l G w.toInt64 0 1) (va_cwS 3 hts gX7_gap_X7_in rfl rfl rfl (by decide +kernel) ⟨Nat.le_of_ble_eq_true rfl, Nat.le_of_ble_eq_true rfl⟩) trivial hO rfl hl.1 (Nat.le_of_ble_eq_true rfl) dX7_gap_33 ⟨Nat.le_of_ble_eq_true rfl, Nat.le_of_ble_eq_true rfl⟩) ?_
      refine lv_if_eq (tgt := 43) hx hb dX7_gap_36 (by decide) (fun c_9 => ?_) (fun c_9 => ?_)
      · refine lv_iconst (v := 2) hx hb dX7_gap_43 (by decide) ?_
        refine cl_mi (rV (As := [.int 2]) (rest := []) ⟨hx, hb, hml, hown, hts⟩ (c_X7_refused l G b M 2) (cwV 1 hts gX7_gap_X7_refused rfl rfl rfl (by decide +kernel) ⟨Nat.le_of_ble_eq_true rfl, Nat.le_of_ble_eq_true rfl⟩) (md_recv hO hP) hP hO rfl hl.1 (Nat.le_of_ble_eq_true rfl) dX7_gap_44 ⟨Nat.le_of_ble_eq_true rfl, Nat.le_of_ble_eq_true rfl⟩) hS hA (fun H locs hP1 hz hk hS => ?_)
        have hP : Md G b ((h_X7_refused M 2).2) H := hP1
        refine lv_if_eq (tgt := 52) hx hb dX7_gap_47 (by decide) (fun c_10 => ?_) (fun c_10 => ?_)
        · exact absurd c_10 (ref_p2 _)
        · refine lv_iconst (v := 0) hx hb dX7_gap_50 (by decide) ?_
          have hE : h_X7_gap M kk w = (0, (h_X7_refused M 2).2) := (by rw [h_X7_gap, if_neg c_1, if_neg c_8, if_pos c_9])
          have hE2 := snd_of hE
          exact W.iret hx hb hr (fun t ht hW => ⟨by rw [fst_of hE], by rw [ht, hE2]; exact hP, hS.F ht⟩) hS.2.2 dX7_gap_51
      · refine lv_iconst (v := 0) hx hb dX7_gap_39 (by decide) ?_
        refine lv_goto (tgt := 44) hx hb dX7_gap_40 (by decide) ?_
        refine cl_mi (rV (As := [.int 0]) (rest := []) ⟨hx, hb, hml, hown, hts⟩ (c_X7_refused l G b M 0) (cwV 1 hts gX7_gap_X7_refused rfl rfl rfl (by decide +kernel) ⟨Nat.le_of_ble_eq_true rfl, Nat.le_of_ble_eq_true rfl⟩) (md_recv hO hP) hP hO rfl hl.1 (Nat.le_of_ble_eq_true rfl) dX7_gap_44 ⟨Nat.le_of_ble_eq_true rfl, Nat.le_of_ble_eq_true rfl⟩) hS hA (fun H locs hP1 hz hk hS => ?_)
        have hP : Md G b ((h_X7_refused M 0).2) H := hP1
        refine lv_if_eq (tgt := 52) hx hb dX7_gap_47 (by decide) (fun c_11 => ?_) (fun c_11 => ?_)
        · refine lv_iload_n hx hb dX7_gap_52 rfl (lv_at hl 3 rfl) ?_
          refine lv_if_ne (tgt := 60) hx hb dX7_gap_53 (by decide) (fun c_12 => ?_) (fun c_12 => ?_)
          · refine lv_aload_n hx hb dX7_gap_60 rfl (lv_at hl 1 rfl) ?_
            refine va_get (D := G.1) (ci := 5) (v := .ref (b + 2)) (C := RX7) (T := TX7) (N := 12) hx hb hts hin7 hown hO.1 hP 0 rfl rfl 3 (by decide) hf_13 (fun _ h9 => h9) rfl dX7_gap_61 ?_
            refine lv_iload_n hx hb dX7_gap_64 rfl (lv_at hl 0 rfl) ?_
            refine cl_pi (rS (As := [.ref (b + 2), .int 80]) (rest := []) ⟨hx, hb, hml, hown, hts⟩ (c_X7_gapCells l G (b + 2) (mN ((h_X7_refused M 0).2)) 80 (by first | exact gapOf_le _ _ | omega)) (va_cwS 2 hts gX7_gap_X7_gapCells rfl rfl rfl (by decide +kernel) ⟨Nat.le_of_ble_eq_true rfl, Nat.le_of_ble_eq_true rfl⟩) (va_P.sub hP [2] rfl) hO rfl hl.1 (Nat.le_of_ble_eq_true rfl) dX7_gap_65 ⟨Nat.le_of_ble_eq_true rfl, Nat.le_of_ble_eq_true rfl⟩) ?_
            have hE : h_X7_gap M kk w = (nI (f_X7_gapCells (mN ((h_X7_refused M 0).2)) 80), (h_X7_refused M 0).2) := (by rw [h_X7_gap, if_neg c_1, if_neg c_8, if_neg c_9, if_neg c_12])
            have hE2 := snd_of hE
            exact W.iret hx hb hr (fun t ht hW => ⟨by rw [fst_of hE], by rw [ht, hE2]; exact hP, hS.F ht⟩) hS.2.2 dX7_gap_68
          · refine lv_iload_n hx hb dX7_gap_56 rfl (lv_at hl 0 rfl) ?_
            refine lv_goto (tgt := 68) hx hb dX7_gap_57 (by decide) ?_
            have hE : h_X7_gap M kk w = (80, (h_X7_refused M 0).2) := (by rw [h_X7_gap, if_neg c_1, if_neg c_8, if_neg c_9, if_pos c_12])
            have hE2 := snd_of hE
            exact W.iret hx hb hr (fun t ht hW => ⟨by rw [fst_of hE], by rw [ht, hE2]; exact hP, hS.F ht⟩) hS.2.2 dX7_gap_68
        · exact absurd (ref_0 _) c_11
    · refine lv_iconst (v := 1) hx hb dX7_gap_25 (by decide) ?_
      refine lv_goto (tgt := 44) hx hb dX7_gap_26 (by decide) ?_
      refine cl_mi (rV (As := [.int 1]) (rest := []) ⟨hx, hb, hml, hown, hts⟩ (c_X7_refused l G b M 1) (cwV 1 hts gX7_gap_X7_refused rfl rfl rfl (by decide +kernel) ⟨Nat.le_of_ble_eq_true rfl, Nat.le_of_ble_eq_true rfl⟩) (md_recv hO hP) hP hO rfl hl.1 (Nat.le_of_ble_eq_true rfl) dX7_gap_44 ⟨Nat.le_of_ble_eq_true rfl, Nat.le_of_ble_eq_true rfl⟩) hS hA (fun H locs hP1 hz hk hS => ?_)
      have hP : Md G b ((h_X7_refused M 1).2) H := hP1
      refine lv_if_eq (tgt := 52) hx hb dX7_gap_47 (by decide) (fun c_13 => ?_) (fun c_13 => ?_)
      · exact absurd c_13 (ref_p1 _)
      · refine lv_iconst (v := 0) hx hb dX7_gap_50 (by decide) ?_
        have hE : h_X7_gap M kk w = (0, (h_X7_refused M 1).2) := (by rw [h_X7_gap, if_neg c_1, if_pos c_8])
        have hE2 := snd_of hE
        exact W.iret hx hb hr (fun t ht hW => ⟨by rw [fst_of hE], by rw [ht, hE2]; exact hP, hS.F ht⟩) hS.2.2 dX7_gap_51
