theorem park_c {g : Rw} {c : Int32} (h : RI g) (hp : ¬ f_X7_isParked g c = 0) : ∃ j, j < gm g ∧ c = nI j ∧ f_X7_of g j 2 = 0 := by
  have hm := h.m
  have hp2 := hp
  rw [f_X7_isParked] at hp2
  by_cases c1 : f_X7_isCar g c = 0
  · rw [if_pos c1] at hp2
    exact absurd rfl hp2
  · obtain ⟨j, hj, e⟩ := car_n hm.1 hm.2 c1
    subst e
    exact ⟨j, hj, rfl, (parked_n h (by omega) hp).2⟩
theorem c_X7_goes_raw (l : Launch) (G : GG) (a : Nat) (g : Rw) (c sta : Int32) (hRp : RI g) (hp : ¬ f_X7_isParked g c = 0) : Met l yX7_goes wsX7_goes ({ frames := 1, cells := 0, slots := 0, locals := 24 }) (PcH G [.ref a, .int c, .int sta] (Arr G 0 a 327 g)) (QM (some (.int (h_X7_goes g c.toNatClampNeg sta).1)) (Arr G 0 a 327 (h_X7_goes g c.toNatClampNeg sta).2) (one a)) 0 0 (one a) := by
  obtain ⟨j, hj, rfl, h2⟩ := park_c hRp hp
  have hm := hRp.m
  have q := hRp.X hj h2
  rw [nI_clamp (by omega)]
  exact c_X7_goes l G a g j sta (by omega) q.1 q.2.1 q.2.2

def h_X7_leave (M : Mo) (c : Int32) : Int32 × Mo :=
  if (f_X7_isCar (mN M) c) = 0 then (0, (h_X7_refused M 1).2) else
  if (f_X7_isParked (mN M) c) = 0 then (0, (h_X7_refused M 2).2) else
  ((h_X7_goes (mN (h_X7_remember ((h_X7_refused M 0).2))) c.toNatClampNeg 2).1, (oN (h_X7_remember ((h_X7_refused M 0).2)) ((h_X7_goes (mN (h_X7_remember ((h_X7_refused M 0).2))) c.toNatClampNeg 2).2)))
set_option maxHeartbeats 4000000 in
set_option maxRecDepth 100000 in
theorem c_X7_leave (l : Launch) (G : GG) (b : Nat) (M : Mo) (c : Int32) (hRI : RI (mN M)) (hac : mC M = nI (ac M)) (hac14 : ac M ≤ 14) : Met l yX7_leave wsX7_leave ({ frames := 3, cells := 0, slots := 0, locals := 67 }) (PcH G [.ref b, .int c] (Md G b M)) (QM (some (.int ((h_X7_leave M c).1))) (Md G b ((h_X7_leave M c).2)) (blk b (b + 8))) 0 0 (blk b (b + 8)) := by
  refine metH (cc := cX7_leave) (maxL := 2) (ret := (some .int)) (by decide) rfl ?_
  intro p e s m below meth cd hx hb hr hml hown hts hlocks hP hO
  have hin7 : ∀ w ∈ u_ws RX7 TX7 12, w ∈ wsX7_leave := by decide +kernel
  have hf_13 := hts (.fieldLink RX7 13 "CurbCarsModel" "now" "[I") (by decide +kernel)
  have hA : ∀ q, (blk b (b + 8)) q → (blk b (b + 8)) q := fun _ h => h
  have hS : va_S (blk b (b + 8)) s.heap s.heap [] := va_S.rf
  have hl := lv_entry ([.ref b, .int c]) (n := 2) (Nat.le_of_ble_eq_true rfl)
  rw [lg_entry_eq]
  generalize (lg_sl ([.ref b, .int c]) ++ List.replicate (2 - (lg_sl ([.ref b, .int c])).length) Slot.unset).toArray = ls at hl ⊢
  have hl : lv_has ls 2 [(0, .ref b), (1, .int c)] := hl
  refine lv_aload_n hx hb dX7_leave_0 rfl (lv_at hl 0 rfl) ?_
  refine lv_aload_n hx hb dX7_leave_1 rfl (lv_at hl 0 rfl) ?_
  refine va_get (D := G.1) (ci := 5) (v := .ref (b + 2)) (C := RX7) (T := TX7) (N := 12) hx hb hts hin7 hown hO.1 hP 0 rfl rfl 3 (by decide) hf_13 (fun _ h9 => h9) rfl dX7_leave_2 ?_
  refine lv_iload_n hx hb dX7_leave_5 rfl (lv_at hl 1 rfl) ?_
  refine cl_pi (rS (As := [.ref (b + 2), .int c]) (rest := [.ref b]) ⟨hx, hb, hml, hown, hts⟩ (c_X7_isCar l G (b + 2) (mN M) c) (va_cwS 2 hts gX7_leave_X7_isCar rfl rfl rfl (by decide +kernel) ⟨Nat.le_of_ble_eq_true rfl, Nat.le_of_ble_eq_true rfl⟩) (va_P.sub hP [2] rfl) hO rfl hl.1 (Nat.le_of_ble_eq_true rfl) dX7_leave_6 ⟨Nat.le_of_ble_eq_true rfl, Nat.le_of_ble_eq_true rfl⟩) ?_
  refine lv_if_ne (tgt := 16) hx hb dX7_leave_9 (by decide) (fun c_1 => ?_) (fun c_1 => ?_)
  · refine lv_aload_n hx hb dX7_leave_16 rfl (lv_at hl 0 rfl) ?_
    refine va_get (D := G.1) (ci := 5) (v := .ref (b + 2)) (C := RX7) (T := TX7) (N := 12) hx hb hts hin7 hown hO.1 hP 0 rfl rfl 3 (by decide) hf_13 (fun _ h9 => h9) rfl dX7_leave_17 ?_
    refine lv_iload_n hx hb dX7_leave_20 rfl (lv_at hl 1 rfl) ?_
    refine cl_pi (rS (As := [.ref (b + 2), .int c]) (rest := [.ref b]) ⟨hx, hb, hml, hown, hts⟩ (c_X7_isParked l G (b + 2) (mN M) c hRI.M) (va_cwS 2 hts gX7_leave_X7_isParked rfl rfl rfl (by decide +kernel) ⟨Nat.le_of_ble_eq_true rfl, Nat.le_of_ble_eq_true rfl⟩) (va_P.sub hP [2] rfl) hO rfl hl.1 (Nat.le_of_ble_eq_true rfl) dX7_leave_21 ⟨Nat.le_of_ble_eq_true rfl, Nat.le_of_ble_eq_true rfl⟩) ?_
    refine lv_if_eq (tgt := 31) hx hb dX7_leave_24 (by decide) (fun c_2 => ?_) (fun c_2 => ?_)
    · refine lv_iconst (v := 2) hx hb dX7_leave_31 (by decide) ?_
      refine cl_mi (rV (As := [.int 2]) (rest := []) ⟨hx, hb, hml, hown, hts⟩ (c_X7_refused l G b M 2) (cwV 1 hts gX7_leave_X7_refused rfl rfl rfl (by decide +kernel) ⟨Nat.le_of_ble_eq_true rfl, Nat.le_of_ble_eq_true rfl⟩) (md_recv hO hP) hP hO rfl hl.1 (Nat.le_of_ble_eq_true rfl) dX7_leave_32 ⟨Nat.le_of_ble_eq_true rfl, Nat.le_of_ble_eq_true rfl⟩) hS hA (fun H locs hP1 hz hk hS => ?_)
      have hP : Md G b ((h_X7_refused M 2).2) H := hP1
      refine lv_if_eq (tgt := 40) hx hb dX7_leave_35 (by decide) (fun c_3 => ?_) (fun c_3 => ?_)
      · exact absurd c_3 (ref_p2 _)
      · refine lv_iconst (v := 0) hx hb dX7_leave_38 (by decide) ?_
        have hE : h_X7_leave M c = (0, (h_X7_refused M 2).2) := (by rw [h_X7_leave, if_neg c_1, if_pos c_2])
        have hE2 := snd_of hE
        exact W.iret hx hb hr (fun t ht hW => ⟨by rw [fst_of hE], by rw [ht, hE2]; exact hP, hS.F ht⟩) hS.2.2 dX7_leave_39
    · refine lv_iconst (v := 0) hx hb dX7_leave_27 (by decide) ?_
      refine lv_goto (tgt := 32) hx hb dX7_leave_28 (by decide) ?_
      refine cl_mi (rV (As := [.int 0]) (rest := []) ⟨hx, hb, hml, hown, hts⟩ (c_X7_refused l G b M 0) (cwV 1 hts gX7_leave_X7_refused rfl rfl rfl (by decide +kernel) ⟨Nat.le_of_ble_eq_true rfl, Nat.le_of_ble_eq_true rfl⟩) (md_recv hO hP) hP hO rfl hl.1 (Nat.le_of_ble_eq_true rfl) dX7_leave_32 ⟨Nat.le_of_ble_eq_true rfl, Nat.le_of_ble_eq_true rfl⟩) hS hA (fun H locs hP1 hz hk hS => ?_)
      have hP : Md G b ((h_X7_refused M 0).2) H := hP1
      refine lv_if_eq (tgt := 40) hx hb dX7_leave_35 (by decide) (fun c_4 => ?_) (fun c_4 => ?_)
      · refine lv_aload_n hx hb dX7_leave_40 rfl (lv_at hl 0 rfl) ?_
        refine cl_mv (rV (As := []) (rest := []) ⟨hx, hb, hml, hown, hts⟩ (c_X7_remember l G b ((h_X7_refused M 0).2) (by rw [ref_C, ref_ac]; exact hac) (by rw [ref_ac]; exact hac14)) (cwV 0 hts gX7_leave_X7_remember rfl rfl rfl (by decide +kernel) ⟨Nat.le_of_ble_eq_true rfl, Nat.le_of_ble_eq_true rfl⟩) (md_recv hO hP) hP hO rfl hl.1 (Nat.le_of_ble_eq_true rfl) dX7_leave_41 ⟨Nat.le_of_ble_eq_true rfl, Nat.le_of_ble_eq_true rfl⟩) hS hA (fun H locs hP1 hz hk hS => ?_)
        have hP : Md G b (h_X7_remember ((h_X7_refused M 0).2)) H := hP1
        refine lv_aload_n hx hb dX7_leave_44 rfl (lv_at hl 0 rfl) ?_
        refine va_get (D := G.1) (ci := 5) (v := .ref (b + 2)) (C := RX7) (T := TX7) (N := 12) hx hb hts hin7 hown hO.1 hP 0 rfl rfl 3 (by decide) hf_13 (fun _ h9 => h9) rfl dX7_leave_45 ?_
        refine lv_iload_n hx hb dX7_leave_48 rfl (lv_at hl 1 rfl) ?_
        refine lv_iconst (v := 2) hx hb dX7_leave_49 (by decide) ?_
        refine cl_mi (rS (As := [.ref (b + 2), .int c, .int 2]) (rest := []) ⟨hx, hb, hml, hown, hts⟩ (c_X7_goes_raw l G (b + 2) (mN (h_X7_remember ((h_X7_refused M 0).2))) c 2 (RI_rr hRI) (by rw [rr_N]; assumption)) (va_cwS 3 hts gX7_leave_X7_goes rfl rfl rfl (by decide +kernel) ⟨Nat.le_of_ble_eq_true rfl, Nat.le_of_ble_eq_true rfl⟩) (va_P.sub hP [2] rfl) hO rfl hl.1 (Nat.le_of_ble_eq_true rfl) dX7_leave_50 ⟨Nat.le_of_ble_eq_true rfl, Nat.le_of_ble_eq_true rfl⟩) hS (fun q h => hA q (by simp only [one, blk] at *; omega)) (fun H locs hP1 hz hk hS => ?_)
        have hP : Md G b (oN (h_X7_remember ((h_X7_refused M 0).2)) ((h_X7_goes (mN (h_X7_remember ((h_X7_refused M 0).2))) c.toNatClampNeg 2).2)) H := md_pN (mo_row 2 hP rfl hP1 hk)
        have hE : h_X7_leave M c = ((h_X7_goes (mN (h_X7_remember ((h_X7_refused M 0).2))) c.toNatClampNeg 2).1, (oN (h_X7_remember ((h_X7_refused M 0).2)) ((h_X7_goes (mN (h_X7_remember ((h_X7_refused M 0).2))) c.toNatClampNeg 2).2))) := (by rw [h_X7_leave, if_neg c_1, if_neg c_2])
        have hE2 := snd_of hE
        exact W.iret hx hb hr (fun t ht hW => ⟨by rw [fst_of hE], by rw [ht, hE2]; exact hP, hS.F ht⟩) hS.2.2 dX7_leave_53
      · exact absurd (ref_0 _) c_4
  · refine lv_iconst (v := 1) hx hb dX7_leave_12 (by decide) ?_
    refine lv_goto (tgt := 32) hx hb dX7_leave_13 (by decide) ?_
    refine cl_mi (rV (As := [.int 1]) (rest := []) ⟨hx, hb, hml, hown, hts⟩ (c_X7_refused l G b M 1) (cwV 1 hts gX7_leave_X7_refused rfl rfl rfl (by decide +kernel) ⟨Nat.le_of_ble_eq_true rfl, Nat.le_of_ble_eq_true rfl⟩) (md_recv hO hP) hP hO rfl hl.1 (Nat.le_of_ble_eq_true rfl) dX7_leave_32 ⟨Nat.le_of_ble_eq_true rfl, Nat.le_of_ble_eq_true rfl⟩) hS hA (fun H locs hP1 hz hk hS => ?_)
    have hP : Md G b ((h_X7_refused M 1).2) H := hP1
    refine lv_if_eq (tgt := 40) hx hb dX7_leave_35 (by decide) (fun c_5 => ?_) (fun c_5 => ?_)
    · exact absurd c_5 (ref_p1 _)
    · refine lv_iconst (v := 0) hx hb dX7_leave_38 (by decide) ?_
      have hE : h_X7_leave M c = (0, (h_X7_refused M 1).2) := (by rw [h_X7_leave, if_pos c_1])
      have hE2 := snd_of hE
      exact W.iret hx hb hr (fun t ht hW => ⟨by rw [fst_of hE], by rw [ht, hE2]; exact hP, hS.F ht⟩) hS.2.2 dX7_leave_39

def h_X7_tow (M : Mo) (c : Int32) : Int32 × Mo :=
  if (f_X7_isCar (mN M) c) = 0 then (0, (h_X7_refused M 1).2) else
  if (f_X7_isParked (mN M) c) = 0 then (0, (h_X7_refused M 2).2) else
  ((f_X7_of (mN (oN (h_X7_remember ((h_X7_refused M 0).2)) ((h_X7_goes (mN (h_X7_remember ((h_X7_refused M 0).2))) c.toNatClampNeg 4).2))) c.toNatClampNeg 1) - (f_X7_of (mN (oN (h_X7_remember ((h_X7_refused M 0).2)) ((h_X7_goes (mN (h_X7_remember ((h_X7_refused M 0).2))) c.toNatClampNeg 4).2))) c.toNatClampNeg 4), (oN (h_X7_remember ((h_X7_refused M 0).2)) ((h_X7_goes (mN (h_X7_remember ((h_X7_refused M 0).2))) c.toNatClampNeg 4).2)))
set_option maxHeartbeats 4000000 in
set_option maxRecDepth 100000 in
theorem c_X7_tow (l : Launch) (G : GG) (b : Nat) (M : Mo) (c : Int32) (hRI : RI (mN M)) (hac : mC M = nI (ac M)) (hac14 : ac M ≤ 14) : Met l yX7_tow wsX7_tow ({ frames := 3, cells := 0, slots := 0, locals := 67 }) (PcH G [.ref b, .int c] (Md G b M)) (QM (some (.int ((h_X7_tow M c).1))) (Md G b ((h_X7_tow M c).2)) (blk b (b + 8))) 0 0 (blk b (b + 8)) := by
  refine metH (cc := cX7_tow) (maxL := 2) (ret := (some .int)) (by decide) rfl ?_
  intro p e s m below meth cd hx hb hr hml hown hts hlocks hP hO
  have hin7 : ∀ w ∈ u_ws RX7 TX7 12, w ∈ wsX7_tow := by decide +kernel
  have hf_13 := hts (.fieldLink RX7 13 "CurbCarsModel" "now" "[I") (by decide +kernel)
  have hA : ∀ q, (blk b (b + 8)) q → (blk b (b + 8)) q := fun _ h => h
  have hS : va_S (blk b (b + 8)) s.heap s.heap [] := va_S.rf
  have hl := lv_entry ([.ref b, .int c]) (n := 2) (Nat.le_of_ble_eq_true rfl)
  rw [lg_entry_eq]
  generalize (lg_sl ([.ref b, .int c]) ++ List.replicate (2 - (lg_sl ([.ref b, .int c])).length) Slot.unset).toArray = ls at hl ⊢
  have hl : lv_has ls 2 [(0, .ref b), (1, .int c)] := hl
  refine lv_aload_n hx hb dX7_tow_0 rfl (lv_at hl 0 rfl) ?_
  refine lv_aload_n hx hb dX7_tow_1 rfl (lv_at hl 0 rfl) ?_
  refine va_get (D := G.1) (ci := 5) (v := .ref (b + 2)) (C := RX7) (T := TX7) (N := 12) hx hb hts hin7 hown hO.1 hP 0 rfl rfl 3 (by decide) hf_13 (fun _ h9 => h9) rfl dX7_tow_2 ?_
  refine lv_iload_n hx hb dX7_tow_5 rfl (lv_at hl 1 rfl) ?_
  refine cl_pi (rS (As := [.ref (b + 2), .int c]) (rest := [.ref b]) ⟨hx, hb, hml, hown, hts⟩ (c_X7_isCar l G (b + 2) (mN M) c) (va_cwS 2 hts gX7_tow_X7_isCar rfl rfl rfl (by decide +kernel) ⟨Nat.le_of_ble_eq_true rfl, Nat.le_of_ble_eq_true rfl⟩) (va_P.sub hP [2] rfl) hO rfl hl.1 (Nat.le_of_ble_eq_true rfl) dX7_tow_6 ⟨Nat.le_of_ble_eq_true rfl, Nat.le_of_ble_eq_true rfl⟩) ?_
  refine lv_if_ne (tgt := 16) hx hb dX7_tow_9 (by decide) (fun c_1 => ?_) (fun c_1 => ?_)
  · refine lv_aload_n hx hb dX7_tow_16 rfl (lv_at hl 0 rfl) ?_
    refine va_get (D := G.1) (ci := 5) (v := .ref (b + 2)) (C := RX7) (T := TX7) (N := 12) hx hb hts hin7 hown hO.1 hP 0 rfl rfl 3 (by decide) hf_13 (fun _ h9 => h9) rfl dX7_tow_17 ?_
    refine lv_iload_n hx hb dX7_tow_20 rfl (lv_at hl 1 rfl) ?_
    refine cl_pi (rS (As := [.ref (b + 2), .int c]) (rest := [.ref b]) ⟨hx, hb, hml, hown, hts⟩ (c_X7_isParked l G (b + 2) (mN M) c hRI.M) (va_cwS 2 hts gX7_tow_X7_isParked rfl rfl rfl (by decide +kernel) ⟨Nat.le_of_ble_eq_true rfl, Nat.le_of_ble_eq_true rfl⟩) (va_P.sub hP [2] rfl) hO rfl hl.1 (Nat.le_of_ble_eq_true rfl) dX7_tow_21 ⟨Nat.le_of_ble_eq_true rfl, Nat.le_of_ble_eq_true rfl⟩) ?_
    refine lv_if_eq (tgt := 31) hx hb dX7_tow_24 (by decide) (fun c_2 => ?_) (fun c_2 => ?_)
    · refine lv_iconst (v := 2) hx hb dX7_tow_31 (by decide) ?_
      refine cl_mi (rV (As := [.int 2]) (rest := []) ⟨hx, hb, hml, hown, hts⟩ (c_X7_refused l G b M 2) (cwV 1 hts gX7_tow_X7_refused rfl rfl rfl (by decide +kernel) ⟨Nat.le_of_ble_eq_true rfl, Nat.le_of_ble_eq_true rfl⟩) (md_recv hO hP) hP hO rfl hl.1 (Nat.le_of_ble_eq_true rfl) dX7_tow_32 ⟨Nat.le_of_ble_eq_true rfl, Nat.le_of_ble_eq_true rfl⟩) hS hA (fun H locs hP1 hz hk hS => ?_)
      have hP : Md G b ((h_X7_refused M 2).2) H := hP1
      refine lv_if_eq (tgt := 40) hx hb dX7_tow_35 (by decide) (fun c_3 => ?_) (fun c_3 => ?_)
      · exact absurd c_3 (ref_p2 _)
      · refine lv_iconst (v := 0) hx hb dX7_tow_38 (by decide) ?_
        have hE : h_X7_tow M c = (0, (h_X7_refused M 2).2) := (by rw [h_X7_tow, if_neg c_1, if_pos c_2])
        have hE2 := snd_of hE
        exact W.iret hx hb hr (fun t ht hW => ⟨by rw [fst_of hE], by rw [ht, hE2]; exact hP, hS.F ht⟩) hS.2.2 dX7_tow_39
    · refine lv_iconst (v := 0) hx hb dX7_tow_27 (by decide) ?_
      refine lv_goto (tgt := 32) hx hb dX7_tow_28 (by decide) ?_
      refine cl_mi (rV (As := [.int 0]) (rest := []) ⟨hx, hb, hml, hown, hts⟩ (c_X7_refused l G b M 0) (cwV 1 hts gX7_tow_X7_refused rfl rfl rfl (by decide +kernel) ⟨Nat.le_of_ble_eq_true rfl, Nat.le_of_ble_eq_true rfl⟩) (md_recv hO hP) hP hO rfl hl.1 (Nat.le_of_ble_eq_true rfl) dX7_tow_32 ⟨Nat.le_of_ble_eq_true rfl, Nat.le_of_ble_eq_true rfl⟩) hS hA (fun H locs hP1 hz hk hS => ?_)
      have hP : Md G b ((h_X7_refused M 0).2) H := hP1
      refine lv_if_eq (tgt := 40) hx hb dX7_tow_35 (by decide) (fun c_4 => ?_) (fun c_4 => ?_)
      · refine lv_aload_n hx hb dX7_tow_40 rfl (lv_at hl 0 rfl) ?_
        refine cl_mv (rV (As := []) (rest := []) ⟨hx, hb, hml, hown, hts⟩ (c_X7_remember l G b ((h_X7_refused M 0).2) (by rw [ref_C, ref_ac]; exact hac) (by rw [ref_ac]; exact hac14)) (cwV 0 hts gX7_tow_X7_remember rfl rfl rfl (by decide +kernel) ⟨Nat.le_of_ble_eq_true rfl, Nat.le_of_ble_eq_true rfl⟩) (md_recv hO hP) hP hO rfl hl.1 (Nat.le_of_ble_eq_true rfl) dX7_tow_41 ⟨Nat.le_of_ble_eq_true rfl, Nat.le_of_ble_eq_true rfl⟩) hS hA (fun H locs hP1 hz hk hS => ?_)
        have hP : Md G b (h_X7_remember ((h_X7_refused M 0).2)) H := hP1
        refine lv_aload_n hx hb dX7_tow_44 rfl (lv_at hl 0 rfl) ?_
        refine va_get (D := G.1) (ci := 5) (v := .ref (b + 2)) (C := RX7) (T := TX7) (N := 12) hx hb hts hin7 hown hO.1 hP 0 rfl rfl 3 (by decide) hf_13 (fun _ h9 => h9) rfl dX7_tow_45 ?_
        refine lv_iload_n hx hb dX7_tow_48 rfl (lv_at hl 1 rfl) ?_
        refine lv_iconst (v := 4) hx hb dX7_tow_49 (by decide) ?_
        refine cl_mi (rS (As := [.ref (b + 2), .int c, .int 4]) (rest := []) ⟨hx, hb, hml, hown, hts⟩ (c_X7_goes_raw l G (b + 2) (mN (h_X7_remember ((h_X7_refused M 0).2))) c 4 (RI_rr hRI) (by rw [rr_N]; assumption)) (va_cwS 3 hts gX7_tow_X7_goes rfl rfl rfl (by decide +kernel) ⟨Nat.le_of_ble_eq_true rfl, Nat.le_of_ble_eq_true rfl⟩) (va_P.sub hP [2] rfl) hO rfl hl.1 (Nat.le_of_ble_eq_true rfl) dX7_tow_50 ⟨Nat.le_of_ble_eq_true rfl, Nat.le_of_ble_eq_true rfl⟩) hS (fun q h => hA q (by simp only [one, blk] at *; omega)) (fun H locs hP1 hz hk hS => ?_)
        have hP : Md G b (oN (h_X7_remember ((h_X7_refused M 0).2)) ((h_X7_goes (mN (h_X7_remember ((h_X7_refused M 0).2))) c.toNatClampNeg 4).2)) H := md_pN (mo_row 2 hP rfl hP1 hk)
        refine lv_pop hx hb dX7_tow_53 rfl ?_
        refine lv_aload_n hx hb dX7_tow_54 rfl (lv_at hl 0 rfl) ?_
        refine va_get (D := G.1) (ci := 5) (v := .ref (b + 2)) (C := RX7) (T := TX7) (N := 12) hx hb hts hin7 hown hO.1 hP 0 rfl rfl 3 (by decide) hf_13 (fun _ h9 => h9) rfl dX7_tow_55 ?_
        refine lv_iload_n hx hb dX7_tow_58 rfl (lv_at hl 1 rfl) ?_
        refine lv_iconst (v := 1) hx hb dX7_tow_59 (by decide) ?_
        refine cl_pi (rS (As := [.ref (b + 2), .int c, .int 1]) (rest := []) ⟨hx, hb, hml, hown, hts⟩ (c_X7_of_raw l G (b + 2) (mN (oN (h_X7_remember ((h_X7_refused M 0).2)) ((h_X7_goes (mN (h_X7_remember ((h_X7_refused M 0).2))) c.toNatClampNeg 4).2))) c 1 (car_r (M := M) (w := 0) hRI (by assumption)) (by decide)) (va_cwS 3 hts gX7_tow_X7_of rfl rfl rfl (by decide +kernel) ⟨Nat.le_of_ble_eq_true rfl, Nat.le_of_ble_eq_true rfl⟩) (va_P.sub hP [2] rfl) hO rfl hl.1 (Nat.le_of_ble_eq_true rfl) dX7_tow_60 ⟨Nat.le_of_ble_eq_true rfl, Nat.le_of_ble_eq_true rfl⟩) ?_
        refine lv_aload_n hx hb dX7_tow_63 rfl (lv_at hl 0 rfl) ?_
        refine va_get (D := G.1) (ci := 5) (v := .ref (b + 2)) (C := RX7) (T := TX7) (N := 12) hx hb hts hin7 hown hO.1 hP 0 rfl rfl 3 (by decide) hf_13 (fun _ h9 => h9) rfl dX7_tow_64 ?_
        refine lv_iload_n hx hb dX7_tow_67 rfl (lv_at hl 1 rfl) ?_
        refine lv_iconst (v := 4) hx hb dX7_tow_68 (by decide) ?_
        refine cl_pi (rS (As := [.ref (b + 2), .int c, .int 4]) (rest := [.int (f_X7_of (mN (oN (h_X7_remember ((h_X7_refused M 0).2)) ((h_X7_goes (mN (h_X7_remember ((h_X7_refused M 0).2))) c.toNatClampNeg 4).2))) c.toNatClampNeg 1)]) ⟨hx, hb, hml, hown, hts⟩ (c_X7_of_raw l G (b + 2) (mN (oN (h_X7_remember ((h_X7_refused M 0).2)) ((h_X7_goes (mN (h_X7_remember ((h_X7_refused M 0).2))) c.toNatClampNeg 4).2))) c 4 (car_r (M := M) (w := 0) hRI (by assumption)) (by decide)) (va_cwS 3 hts gX7_tow_X7_of rfl rfl rfl (by decide +kernel) ⟨Nat.le_of_ble_eq_true rfl, Nat.le_of_ble_eq_true rfl⟩) (va_P.sub hP [2] rfl) hO rfl hl.1 (Nat.le_of_ble_eq_true rfl) dX7_tow_69 ⟨Nat.le_of_ble_eq_true rfl, Nat.le_of_ble_eq_true rfl⟩) ?_
        refine lv_isub hx hb dX7_tow_72 ?_
        have hE : h_X7_tow M c = ((f_X7_of (mN (oN (h_X7_remember ((h_X7_refused M 0).2)) ((h_X7_goes (mN (h_X7_remember ((h_X7_refused M 0).2))) c.toNatClampNeg 4).2))) c.toNatClampNeg 1) - (f_X7_of (mN (oN (h_X7_remember ((h_X7_refused M 0).2)) ((h_X7_goes (mN (h_X7_remember ((h_X7_refused M 0).2))) c.toNatClampNeg 4).2))) c.toNatClampNeg 4), (oN (h_X7_remember ((h_X7_refused M 0).2)) ((h_X7_goes (mN (h_X7_remember ((h_X7_refused M 0).2))) c.toNatClampNeg 4).2))) := (by rw [h_X7_tow, if_neg c_1, if_neg c_2])
        have hE2 := snd_of hE
        exact W.iret hx hb hr (fun t ht hW => ⟨by rw [fst_of hE], by rw [ht, hE2]; exact hP, hS.F ht⟩) hS.2.2 dX7_tow_73
      · exact absurd (ref_0 _) c_4
  · refine lv_iconst (v := 1) hx hb dX7_tow_12 (by decide) ?_
    refine lv_goto (tgt := 32) hx hb dX7_tow_13 (by decide) ?_
    refine cl_mi (rV (As := [.int 1]) (rest := []) ⟨hx, hb, hml, hown, hts⟩ (c_X7_refused l G b M 1) (cwV 1 hts gX7_tow_X7_refused rfl rfl rfl (by decide +kernel) ⟨Nat.le_of_ble_eq_true rfl, Nat.le_of_ble_eq_true rfl⟩) (md_recv hO hP) hP hO rfl hl.1 (Nat.le_of_ble_eq_true rfl) dX7_tow_32 ⟨Nat.le_of_ble_eq_true rfl, Nat.le_of_ble_eq_true rfl⟩) hS hA (fun H locs hP1 hz hk hS => ?_)
    have hP : Md G b ((h_X7_refused M 1).2) H := hP1
    refine lv_if_eq (tgt := 40) hx hb dX7_tow_35 (by decide) (fun c_5 => ?_) (fun c_5 => ?_)
    · exact absurd c_5 (ref_p1 _)
    · refine lv_iconst (v := 0) hx hb dX7_tow_38 (by decide) ?_
      have hE : h_X7_tow M c = (0, (h_X7_refused M 1).2) := (by rw [h_X7_tow, if_pos c_1])
      have hE2 := snd_of hE
      exact W.iret hx hb hr (fun t ht hW => ⟨by rw [fst_of hE], by rw [ht, hE2]; exact hP, hS.F ht⟩) hS.2.2 dX7_tow_39
