theorem ref_N (M : Mo) (w : Int32) : mN (h_X7_refused M w).2 = mN M := by
  rw [ref_M]
  rfl
theorem in_nat {x : Int32} {lo hi : Int64} {a : Nat} (hlo : lo.toInt = 0) (hhi : hi.toInt = a) (h : ¬ f_X7_in x.toInt64 lo hi = 0) : ∃ j, j ≤ a ∧ x = nI j := by
  have h1 := in_ne h
  rw [i64, hlo, hhi] at h1
  obtain ⟨j, hj, rfl⟩ := nI_of (x := x) (by rw [Int32.lt_iff_toInt_lt, Int32.toInt_zero]; omega)
  rw [nI_toInt hj] at h1
  exact ⟨j, by omega, rfl⟩
theorem set_in {x : Int32} (h : ¬ f_X7_in x.toInt64 0 2 = 0) : vp_in (2 + x) 327 := by
  obtain ⟨j, hj, rfl⟩ := in_nat (a := 2) (by decide) (by decide) h
  rw [show (2 : Int32) + nI j = nI (2 + j) from nI_add 2 j]
  exact vp_in_nI (by omega) (by omega)
theorem c_X7_of_raw2 (l : Launch) (G : GG) (a : Nat) (g : Rw) (c w : Int32) (hc : ∃ j, j < 40 ∧ c = nI j) (hw : ∃ j, j < 6 ∧ w = nI j) : Met l yX7_of wsX7_of ({ frames := 0, cells := 0, slots := 0, locals := 0 }) (PcH G [.ref a, .int c, .int w] (Arr G 0 a 327 g)) (QP (some (.int (f_X7_of g c.toNatClampNeg w.toNatClampNeg)))) 0 0 noA := by
  obtain ⟨j, hj, rfl⟩ := hc
  obtain ⟨u, hu, rfl⟩ := hw
  rw [nI_clamp (by omega), nI_clamp (by omega)]
  exact c_X7_of l G a g j u (by omega)
theorem car_r {M : Mo} {c : Int32} {w : Int32} (hR : RI (mN M)) (h : ¬ f_X7_isCar (mN M) c = 0) : ∃ j, j < 40 ∧ c = nI j := car_40 hR.1 h
theorem of_w6 {x : Int32} (h : ¬ f_X7_in x.toInt64 0 6 = 0) (h6 : ¬ 6 ≤ x) : ∃ j, j < 6 ∧ x = nI j := by
  obtain ⟨j, hj, rfl⟩ := in_nat (a := 6) (by decide) (by decide) h
  exact ⟨j, kN (B := 6) h6 (by omega) (by omega), rfl⟩

def h_X7_setting (M : Mo) (x : Int32) : Int32 × Mo :=
  if (f_X7_in x.toInt64 0 2) = 0 then (0, (h_X7_refused M 1).2) else
  ((mN ((h_X7_refused M 0).2)) (2 + x).toNatClampNeg, (h_X7_refused M 0).2)
set_option maxHeartbeats 4000000 in
set_option maxRecDepth 100000 in
theorem c_X7_setting (l : Launch) (G : GG) (b : Nat) (M : Mo) (x : Int32) : Met l yX7_setting wsX7_setting ({ frames := 1, cells := 0, slots := 0, locals := 25 }) (PcH G [.ref b, .int x] (Md G b M)) (QM (some (.int ((h_X7_setting M x).1))) (Md G b ((h_X7_setting M x).2)) (blk b (b + 8))) 0 0 (blk b (b + 8)) := by
  refine metH (cc := cX7_setting) (maxL := 2) (ret := (some .int)) (by decide) rfl ?_
  intro p e s m below meth cd hx hb hr hml hown hts hlocks hP hO
  have hin7 : ∀ w ∈ u_ws RX7 TX7 12, w ∈ wsX7_setting := by decide +kernel
  have hf_13 := hts (.fieldLink RX7 13 "CurbCarsModel" "now" "[I") (by decide +kernel)
  have hA : ∀ q, (blk b (b + 8)) q → (blk b (b + 8)) q := fun _ h => h
  have hS : va_S (blk b (b + 8)) s.heap s.heap [] := va_S.rf
  have hl := lv_entry ([.ref b, .int x]) (n := 2) (Nat.le_of_ble_eq_true rfl)
  rw [lg_entry_eq]
  generalize (lg_sl ([.ref b, .int x]) ++ List.replicate (2 - (lg_sl ([.ref b, .int x])).length) Slot.unset).toArray = ls at hl ⊢
  have hl : lv_has ls 2 [(0, .ref b), (1, .int x)] := hl
  refine lv_aload_n hx hb dX7_setting_0 rfl (lv_at hl 0 rfl) ?_
  refine lv_iload_n hx hb dX7_setting_1 rfl (lv_at hl 1 rfl) ?_
  refine lv_i2l (v := x.toInt64) hx hb dX7_setting_2 rfl ?_
  refine lv_lconst (v := 0) hx hb dX7_setting_3 (by decide) ?_
  refine lv_ldc2 (v := 2) hx hb hown (hts (.constantLong RX7 54 (2)) (by decide +kernel)) dX7_setting_4 ?_
  refine cl_pi (rS (As := [.long x.toInt64, .long 0, .long 2]) (rest := [.ref b]) ⟨hx, hb, hml, hown, hts⟩ (c_X7_in l G x.toInt64 0 2) (va_cwS 3 hts gX7_setting_X7_in rfl rfl rfl (by decide +kernel) ⟨Nat.le_of_ble_eq_true rfl, Nat.le_of_ble_eq_true rfl⟩) trivial hO rfl hl.1 (Nat.le_of_ble_eq_true rfl) dX7_setting_7 ⟨Nat.le_of_ble_eq_true rfl, Nat.le_of_ble_eq_true rfl⟩) ?_
  refine lv_if_eq (tgt := 17) hx hb dX7_setting_10 (by decide) (fun c_1 => ?_) (fun c_1 => ?_)
  · refine lv_iconst (v := 1) hx hb dX7_setting_17 (by decide) ?_
    refine cl_mi (rV (As := [.int 1]) (rest := []) ⟨hx, hb, hml, hown, hts⟩ (c_X7_refused l G b M 1) (cwV 1 hts gX7_setting_X7_refused rfl rfl rfl (by decide +kernel) ⟨Nat.le_of_ble_eq_true rfl, Nat.le_of_ble_eq_true rfl⟩) (md_recv hO hP) hP hO rfl hl.1 (Nat.le_of_ble_eq_true rfl) dX7_setting_18 ⟨Nat.le_of_ble_eq_true rfl, Nat.le_of_ble_eq_true rfl⟩) hS hA (fun H locs hP1 hz hk hS => ?_)
    have hP : Md G b ((h_X7_refused M 1).2) H := hP1
    refine lv_if_eq (tgt := 26) hx hb dX7_setting_21 (by decide) (fun c_2 => ?_) (fun c_2 => ?_)
    · exact absurd c_2 (ref_p1 _)
    · refine lv_iconst (v := 0) hx hb dX7_setting_24 (by decide) ?_
      have hE : h_X7_setting M x = (0, (h_X7_refused M 1).2) := (by rw [h_X7_setting, if_pos c_1])
      have hE2 := snd_of hE
      exact W.iret hx hb hr (fun t ht hW => ⟨by rw [fst_of hE], by rw [ht, hE2]; exact hP, hS.F ht⟩) hS.2.2 dX7_setting_25
  · refine lv_iconst (v := 0) hx hb dX7_setting_13 (by decide) ?_
    refine lv_goto (tgt := 18) hx hb dX7_setting_14 (by decide) ?_
    refine cl_mi (rV (As := [.int 0]) (rest := []) ⟨hx, hb, hml, hown, hts⟩ (c_X7_refused l G b M 0) (cwV 1 hts gX7_setting_X7_refused rfl rfl rfl (by decide +kernel) ⟨Nat.le_of_ble_eq_true rfl, Nat.le_of_ble_eq_true rfl⟩) (md_recv hO hP) hP hO rfl hl.1 (Nat.le_of_ble_eq_true rfl) dX7_setting_18 ⟨Nat.le_of_ble_eq_true rfl, Nat.le_of_ble_eq_true rfl⟩) hS hA (fun H locs hP1 hz hk hS => ?_)
    have hP : Md G b ((h_X7_refused M 0).2) H := hP1
    refine lv_if_eq (tgt := 26) hx hb dX7_setting_21 (by decide) (fun c_3 => ?_) (fun c_3 => ?_)
    · refine lv_aload_n hx hb dX7_setting_26 rfl (lv_at hl 0 rfl) ?_
      refine va_get (D := G.1) (ci := 5) (v := .ref (b + 2)) (C := RX7) (T := TX7) (N := 12) hx hb hts hin7 hown hO.1 hP 0 rfl rfl 3 (by decide) hf_13 (fun _ h9 => h9) rfl dX7_setting_27 ?_
      refine lv_iconst (v := 2) hx hb dX7_setting_30 (by decide) ?_
      refine lv_iload_n hx hb dX7_setting_31 rfl (lv_at hl 1 rfl) ?_
      refine lv_iadd hx hb dX7_setting_32 ?_
      refine va_iald hx hb hO.1 hP 2 0 rfl rfl (set_in (by assumption)) dX7_setting_33 ?_
      have hE : h_X7_setting M x = ((mN ((h_X7_refused M 0).2)) (2 + x).toNatClampNeg, (h_X7_refused M 0).2) := (by rw [h_X7_setting, if_neg c_1])
      have hE2 := snd_of hE
      exact W.iret hx hb hr (fun t ht hW => ⟨by rw [fst_of hE], by rw [ht, hE2]; exact hP, hS.F ht⟩) hS.2.2 dX7_setting_34
    · exact absurd (ref_0 _) c_3

def h_X7_at (M : Mo) (x : Int32) : Int32 × Mo :=
  if (f_X7_isCell x) = 0 then (0, (h_X7_refused M 1).2) else
  ((mN ((h_X7_refused M 0).2)) (7 + x).toNatClampNeg, (h_X7_refused M 0).2)
set_option maxHeartbeats 4000000 in
set_option maxRecDepth 100000 in
theorem c_X7_at (l : Launch) (G : GG) (b : Nat) (M : Mo) (x : Int32) : Met l yX7_at wsX7_at ({ frames := 2, cells := 0, slots := 0, locals := 45 }) (PcH G [.ref b, .int x] (Md G b M)) (QM (some (.int ((h_X7_at M x).1))) (Md G b ((h_X7_at M x).2)) (blk b (b + 8))) 0 0 (blk b (b + 8)) := by
  refine metH (cc := cX7_at) (maxL := 2) (ret := (some .int)) (by decide) rfl ?_
  intro p e s m below meth cd hx hb hr hml hown hts hlocks hP hO
  have hin7 : ∀ w ∈ u_ws RX7 TX7 12, w ∈ wsX7_at := by decide +kernel
  have hf_13 := hts (.fieldLink RX7 13 "CurbCarsModel" "now" "[I") (by decide +kernel)
  have hA : ∀ q, (blk b (b + 8)) q → (blk b (b + 8)) q := fun _ h => h
  have hS : va_S (blk b (b + 8)) s.heap s.heap [] := va_S.rf
  have hl := lv_entry ([.ref b, .int x]) (n := 2) (Nat.le_of_ble_eq_true rfl)
  rw [lg_entry_eq]
  generalize (lg_sl ([.ref b, .int x]) ++ List.replicate (2 - (lg_sl ([.ref b, .int x])).length) Slot.unset).toArray = ls at hl ⊢
  have hl : lv_has ls 2 [(0, .ref b), (1, .int x)] := hl
  refine lv_aload_n hx hb dX7_at_0 rfl (lv_at hl 0 rfl) ?_
  refine lv_iload_n hx hb dX7_at_1 rfl (lv_at hl 1 rfl) ?_
  refine cl_pi (rS (As := [.int x]) (rest := [.ref b]) ⟨hx, hb, hml, hown, hts⟩ (c_X7_isCell l G x) (va_cwS 1 hts gX7_at_X7_isCell rfl rfl rfl (by decide +kernel) ⟨Nat.le_of_ble_eq_true rfl, Nat.le_of_ble_eq_true rfl⟩) trivial hO rfl hl.1 (Nat.le_of_ble_eq_true rfl) dX7_at_2 ⟨Nat.le_of_ble_eq_true rfl, Nat.le_of_ble_eq_true rfl⟩) ?_
  refine lv_if_eq (tgt := 12) hx hb dX7_at_5 (by decide) (fun c_1 => ?_) (fun c_1 => ?_)
  · refine lv_iconst (v := 1) hx hb dX7_at_12 (by decide) ?_
    refine cl_mi (rV (As := [.int 1]) (rest := []) ⟨hx, hb, hml, hown, hts⟩ (c_X7_refused l G b M 1) (cwV 1 hts gX7_at_X7_refused rfl rfl rfl (by decide +kernel) ⟨Nat.le_of_ble_eq_true rfl, Nat.le_of_ble_eq_true rfl⟩) (md_recv hO hP) hP hO rfl hl.1 (Nat.le_of_ble_eq_true rfl) dX7_at_13 ⟨Nat.le_of_ble_eq_true rfl, Nat.le_of_ble_eq_true rfl⟩) hS hA (fun H locs hP1 hz hk hS => ?_)
    have hP : Md G b ((h_X7_refused M 1).2) H := hP1
    refine lv_if_eq (tgt := 21) hx hb dX7_at_16 (by decide) (fun c_2 => ?_) (fun c_2 => ?_)
    · exact absurd c_2 (ref_p1 _)
    · refine lv_iconst (v := 0) hx hb dX7_at_19 (by decide) ?_
      have hE : h_X7_at M x = (0, (h_X7_refused M 1).2) := (by rw [h_X7_at, if_pos c_1])
      have hE2 := snd_of hE
      exact W.iret hx hb hr (fun t ht hW => ⟨by rw [fst_of hE], by rw [ht, hE2]; exact hP, hS.F ht⟩) hS.2.2 dX7_at_20
  · refine lv_iconst (v := 0) hx hb dX7_at_8 (by decide) ?_
    refine lv_goto (tgt := 13) hx hb dX7_at_9 (by decide) ?_
    refine cl_mi (rV (As := [.int 0]) (rest := []) ⟨hx, hb, hml, hown, hts⟩ (c_X7_refused l G b M 0) (cwV 1 hts gX7_at_X7_refused rfl rfl rfl (by decide +kernel) ⟨Nat.le_of_ble_eq_true rfl, Nat.le_of_ble_eq_true rfl⟩) (md_recv hO hP) hP hO rfl hl.1 (Nat.le_of_ble_eq_true rfl) dX7_at_13 ⟨Nat.le_of_ble_eq_true rfl, Nat.le_of_ble_eq_true rfl⟩) hS hA (fun H locs hP1 hz hk hS => ?_)
    have hP : Md G b ((h_X7_refused M 0).2) H := hP1
    refine lv_if_eq (tgt := 21) hx hb dX7_at_16 (by decide) (fun c_3 => ?_) (fun c_3 => ?_)
    · refine lv_aload_n hx hb dX7_at_21 rfl (lv_at hl 0 rfl) ?_
      refine va_get (D := G.1) (ci := 5) (v := .ref (b + 2)) (C := RX7) (T := TX7) (N := 12) hx hb hts hin7 hown hO.1 hP 0 rfl rfl 3 (by decide) hf_13 (fun _ h9 => h9) rfl dX7_at_22 ?_
      refine lv_bipush (v := 7) hx hb dX7_at_25 (by decide) ?_
      refine lv_iload_n hx hb dX7_at_27 rfl (lv_at hl 1 rfl) ?_
      refine lv_iadd hx hb dX7_at_28 ?_
      refine va_iald hx hb hO.1 hP 2 0 rfl rfl (cell_in (by assumption)) dX7_at_29 ?_
      have hE : h_X7_at M x = ((mN ((h_X7_refused M 0).2)) (7 + x).toNatClampNeg, (h_X7_refused M 0).2) := (by rw [h_X7_at, if_neg c_1])
      have hE2 := snd_of hE
      exact W.iret hx hb hr (fun t ht hW => ⟨by rw [fst_of hE], by rw [ht, hE2]; exact hP, hS.F ht⟩) hS.2.2 dX7_at_30
    · exact absurd (ref_0 _) c_3

def h_X7_why (M : Mo) (len : Int32) : Int32 × Mo :=
  if (f_X7_isLength len) = 0 then (0, (h_X7_refused M 1).2) else
  (f_X7_reason (mN ((h_X7_refused M 0).2)) len, (h_X7_refused M 0).2)
set_option maxHeartbeats 4000000 in
set_option maxRecDepth 100000 in
theorem c_X7_why (l : Launch) (G : GG) (b : Nat) (M : Mo) (len : Int32) : Met l yX7_why wsX7_why ({ frames := 5, cells := 0, slots := 0, locals := 107 }) (PcH G [.ref b, .int len] (Md G b M)) (QM (some (.int ((h_X7_why M len).1))) (Md G b ((h_X7_why M len).2)) (blk b (b + 8))) 0 0 (blk b (b + 8)) := by
  refine metH (cc := cX7_why) (maxL := 2) (ret := (some .int)) (by decide) rfl ?_
  intro p e s m below meth cd hx hb hr hml hown hts hlocks hP hO
  have hin7 : ∀ w ∈ u_ws RX7 TX7 12, w ∈ wsX7_why := by decide +kernel
  have hf_13 := hts (.fieldLink RX7 13 "CurbCarsModel" "now" "[I") (by decide +kernel)
  have hA : ∀ q, (blk b (b + 8)) q → (blk b (b + 8)) q := fun _ h => h
  have hS : va_S (blk b (b + 8)) s.heap s.heap [] := va_S.rf
  have hl := lv_entry ([.ref b, .int len]) (n := 2) (Nat.le_of_ble_eq_true rfl)
  rw [lg_entry_eq]
  generalize (lg_sl ([.ref b, .int len]) ++ List.replicate (2 - (lg_sl ([.ref b, .int len])).length) Slot.unset).toArray = ls at hl ⊢
  have hl : lv_has ls 2 [(0, .ref b), (1, .int len)] := hl
  refine lv_aload_n hx hb dX7_why_0 rfl (lv_at hl 0 rfl) ?_
  refine lv_iload_n hx hb dX7_why_1 rfl (lv_at hl 1 rfl) ?_
  refine cl_pi (rS (As := [.int len]) (rest := [.ref b]) ⟨hx, hb, hml, hown, hts⟩ (c_X7_isLength l G len) (va_cwS 1 hts gX7_why_X7_isLength rfl rfl rfl (by decide +kernel) ⟨Nat.le_of_ble_eq_true rfl, Nat.le_of_ble_eq_true rfl⟩) trivial hO rfl hl.1 (Nat.le_of_ble_eq_true rfl) dX7_why_2 ⟨Nat.le_of_ble_eq_true rfl, Nat.le_of_ble_eq_true rfl⟩) ?_
  refine lv_if_eq (tgt := 12) hx hb dX7_why_5 (by decide) (fun c_1 => ?_) (fun c_1 => ?_)
  · refine lv_iconst (v := 1) hx hb dX7_why_12 (by decide) ?_
    refine cl_mi (rV (As := [.int 1]) (rest := []) ⟨hx, hb, hml, hown, hts⟩ (c_X7_refused l G b M 1) (cwV 1 hts gX7_why_X7_refused rfl rfl rfl (by decide +kernel) ⟨Nat.le_of_ble_eq_true rfl, Nat.le_of_ble_eq_true rfl⟩) (md_recv hO hP) hP hO rfl hl.1 (Nat.le_of_ble_eq_true rfl) dX7_why_13 ⟨Nat.le_of_ble_eq_true rfl, Nat.le_of_ble_eq_true rfl⟩) hS hA (fun H locs hP1 hz hk hS => ?_)
    have hP : Md G b ((h_X7_refused M 1).2) H := hP1
    refine lv_if_eq (tgt := 21) hx hb dX7_why_16 (by decide) (fun c_2 => ?_) (fun c_2 => ?_)
    · exact absurd c_2 (ref_p1 _)
    · refine lv_iconst (v := 0) hx hb dX7_why_19 (by decide) ?_
      have hE : h_X7_why M len = (0, (h_X7_refused M 1).2) := (by rw [h_X7_why, if_pos c_1])
      have hE2 := snd_of hE
      exact W.iret hx hb hr (fun t ht hW => ⟨by rw [fst_of hE], by rw [ht, hE2]; exact hP, hS.F ht⟩) hS.2.2 dX7_why_20
  · refine lv_iconst (v := 0) hx hb dX7_why_8 (by decide) ?_
    refine lv_goto (tgt := 13) hx hb dX7_why_9 (by decide) ?_
    refine cl_mi (rV (As := [.int 0]) (rest := []) ⟨hx, hb, hml, hown, hts⟩ (c_X7_refused l G b M 0) (cwV 1 hts gX7_why_X7_refused rfl rfl rfl (by decide +kernel) ⟨Nat.le_of_ble_eq_true rfl, Nat.le_of_ble_eq_true rfl⟩) (md_recv hO hP) hP hO rfl hl.1 (Nat.le_of_ble_eq_true rfl) dX7_why_13 ⟨Nat.le_of_ble_eq_true rfl, Nat.le_of_ble_eq_true rfl⟩) hS hA (fun H locs hP1 hz hk hS => ?_)
    have hP : Md G b ((h_X7_refused M 0).2) H := hP1
    refine lv_if_eq (tgt := 21) hx hb dX7_why_16 (by decide) (fun c_3 => ?_) (fun c_3 => ?_)
    · refine lv_aload_n hx hb dX7_why_21 rfl (lv_at hl 0 rfl) ?_
      refine va_get (D := G.1) (ci := 5) (v := .ref (b + 2)) (C := RX7) (T := TX7) (N := 12) hx hb hts hin7 hown hO.1 hP 0 rfl rfl 3 (by decide) hf_13 (fun _ h9 => h9) rfl dX7_why_22 ?_
      refine lv_iload_n hx hb dX7_why_25 rfl (lv_at hl 1 rfl) ?_
      refine cl_pi (rS (As := [.ref (b + 2), .int len]) (rest := []) ⟨hx, hb, hml, hown, hts⟩ (c_X7_reason l G (b + 2) (mN ((h_X7_refused M 0).2)) len) (va_cwS 2 hts gX7_why_X7_reason rfl rfl rfl (by decide +kernel) ⟨Nat.le_of_ble_eq_true rfl, Nat.le_of_ble_eq_true rfl⟩) (va_P.sub hP [2] rfl) hO rfl hl.1 (Nat.le_of_ble_eq_true rfl) dX7_why_26 ⟨Nat.le_of_ble_eq_true rfl, Nat.le_of_ble_eq_true rfl⟩) ?_
      have hE : h_X7_why M len = (f_X7_reason (mN ((h_X7_refused M 0).2)) len, (h_X7_refused M 0).2) := (by rw [h_X7_why, if_neg c_1])
      have hE2 := snd_of hE
      exact W.iret hx hb hr (fun t ht hW => ⟨by rw [fst_of hE], by rw [ht, hE2]; exact hP, hS.F ht⟩) hS.2.2 dX7_why_29
    · exact absurd (ref_0 _) c_3

def h_X7_done (M : Mo) (is : Int32) : Int32 × Mo :=
  if is = 0 then (1, (oO M ((mO M) + 1))) else
  (1, (oO M ((mO M) + 0)))
set_option maxHeartbeats 4000000 in
set_option maxRecDepth 100000 in
theorem c_X7_done (l : Launch) (G : GG) (b : Nat) (M : Mo) (is : Int32) : Met l yX7_done wsX7_done ({ frames := 0, cells := 0, slots := 0, locals := 0 }) (PcH G [.ref b, .int is] (Md G b M)) (QM (some (.int ((h_X7_done M is).1))) (Md G b ((h_X7_done M is).2)) (blk b (b + 8))) 0 0 (blk b (b + 8)) := by
  refine metH (cc := cX7_done) (maxL := 2) (ret := (some .boolean)) (by decide) rfl ?_
  intro p e s m below meth cd hx hb hr hml hown hts hlocks hP hO
  have hin7 : ∀ w ∈ u_ws RX7 TX7 12, w ∈ wsX7_done := by decide +kernel
  have hf_145 := hts (.fieldLink RX7 145 "CurbCarsModel" "out" "I") (by decide +kernel)
  have hA : ∀ q, (blk b (b + 8)) q → (blk b (b + 8)) q := fun _ h => h
  have hS : va_S (blk b (b + 8)) s.heap s.heap [] := va_S.rf
  have hl := lv_entry ([.ref b, .int is]) (n := 2) (Nat.le_of_ble_eq_true rfl)
  rw [lg_entry_eq]
  generalize (lg_sl ([.ref b, .int is]) ++ List.replicate (2 - (lg_sl ([.ref b, .int is])).length) Slot.unset).toArray = ls at hl ⊢
  have hl : lv_has ls 2 [(0, .ref b), (1, .int is)] := hl
  refine lv_aload_n hx hb dX7_done_0 rfl (lv_at hl 0 rfl) ?_
  refine lv_dup hx hb dX7_done_1 rfl ?_
  refine va_get (D := G.1) (ci := 5) (v := .int (mO M)) (C := RX7) (T := TX7) (N := 12) hx hb hts hin7 hown hO.1 hP 0 rfl rfl 11 (by decide) hf_145 (fun _ h9 => h9) rfl dX7_done_2 ?_
  refine lv_iload_n hx hb dX7_done_5 rfl (lv_at hl 1 rfl) ?_
  refine lv_if_eq (tgt := 13) hx hb dX7_done_6 (by decide) (fun c_1 => ?_) (fun c_1 => ?_)
  · refine lv_iconst (v := 1) hx hb dX7_done_13 (by decide) ?_
    refine lv_iadd hx hb dX7_done_14 ?_
    refine va_put (D := G.1) (ci := 5) (v := .int ((mO M) + 1)) (ty := .int) (C := RX7) (T := TX7) (N := 12) hx hb hts hin7 tyX7 tyX7_ok nmX7 hown hO.1 hP (md_D b M hA) hS 0 rfl rfl 11 (by decide) hf_145 (fun _ h9 => h9) rfl (by decide +kernel) rfl rfl (Nat.le_of_ble_eq_true rfl) dX7_done_15 (fun H locs hP hD hS => ?_)
    have hP : Md G b (oO M ((mO M) + 1)) H := md_pO hP
    refine lv_iconst (v := 1) hx hb dX7_done_18 (by decide) ?_
    have hE : h_X7_done M is = (1, (oO M ((mO M) + 1))) := (by rw [h_X7_done, if_pos c_1])
    have hE2 := snd_of hE
    exact W.zret (ty := .boolean) hx hb hr rfl (fun t ht hW => ⟨by rw [fst_of hE], by rw [ht, hE2]; exact hP, hS.F ht⟩) hS.2.2 dX7_done_19
  · refine lv_iconst (v := 0) hx hb dX7_done_9 (by decide) ?_
    refine lv_goto (tgt := 14) hx hb dX7_done_10 (by decide) ?_
    refine lv_iadd hx hb dX7_done_14 ?_
    refine va_put (D := G.1) (ci := 5) (v := .int ((mO M) + 0)) (ty := .int) (C := RX7) (T := TX7) (N := 12) hx hb hts hin7 tyX7 tyX7_ok nmX7 hown hO.1 hP (md_D b M hA) hS 0 rfl rfl 11 (by decide) hf_145 (fun _ h9 => h9) rfl (by decide +kernel) rfl rfl (Nat.le_of_ble_eq_true rfl) dX7_done_15 (fun H locs hP hD hS => ?_)
    have hP : Md G b (oO M ((mO M) + 0)) H := md_pO hP
    refine lv_iconst (v := 1) hx hb dX7_done_18 (by decide) ?_
    have hE : h_X7_done M is = (1, (oO M ((mO M) + 0))) := (by rw [h_X7_done, if_neg c_1])
    have hE2 := snd_of hE
    exact W.zret (ty := .boolean) hx hb hr rfl (fun t ht hW => ⟨by rw [fst_of hE], by rw [ht, hE2]; exact hP, hS.F ht⟩) hS.2.2 dX7_done_19

theorem b_h_X7_done (M : Mo) (is : Int32) : (h_X7_done M is).1 = 0 ∨ (h_X7_done M is).1 = 1 := by
  unfold h_X7_done
  repeat' split
  all_goals first | exact Or.inl rfl | exact Or.inr rfl

def h_X7_carOf (M : Mo) (c : Int32) (w : Int32) : Int32 × Mo :=
  if (f_X7_isCar (mN M) c) = 0 then (0, (h_X7_refused M 1).2) else
  if (f_X7_in w.toInt64 0 6) = 0 then (0, (h_X7_refused M 2).2) else
  if 6 ≤ w then (if (f_X7_isParked (mN ((h_X7_refused M 0).2)) c) = 0 then ((-1), (h_X7_refused M 0).2) else
    ((f_X7_of (mN ((h_X7_refused M 0).2)) c.toNatClampNeg 1) - (f_X7_of (mN ((h_X7_refused M 0).2)) c.toNatClampNeg 4), (h_X7_refused M 0).2)) else
  (f_X7_of (mN ((h_X7_refused M 0).2)) c.toNatClampNeg w.toNatClampNeg, (h_X7_refused M 0).2)
set_option maxHeartbeats 4000000 in
set_option maxRecDepth 100000 in
theorem c_X7_carOf (l : Launch) (G : GG) (b : Nat) (M : Mo) (c : Int32) (w : Int32) (hRI : RI (mN M)) : Met l yX7_carOf wsX7_carOf ({ frames := 3, cells := 0, slots := 0, locals := 67 }) (PcH G [.ref b, .int c, .int w] (Md G b M)) (QM (some (.int ((h_X7_carOf M c w).1))) (Md G b ((h_X7_carOf M c w).2)) (blk b (b + 8))) 0 0 (blk b (b + 8)) := by
  refine metH (cc := cX7_carOf) (maxL := 3) (ret := (some .int)) (by decide) rfl ?_
  intro p e s m below meth cd hx hb hr hml hown hts hlocks hP hO
  have hin7 : ∀ w ∈ u_ws RX7 TX7 12, w ∈ wsX7_carOf := by decide +kernel
  have hf_13 := hts (.fieldLink RX7 13 "CurbCarsModel" "now" "[I") (by decide +kernel)
  have hA : ∀ q, (blk b (b + 8)) q → (blk b (b + 8)) q := fun _ h => h
  have hS : va_S (blk b (b + 8)) s.heap s.heap [] := va_S.rf
  have hl := lv_entry ([.ref b, .int c, .int w]) (n := 3) (Nat.le_of_ble_eq_true rfl)
  rw [lg_entry_eq]
  generalize (lg_sl ([.ref b, .int c, .int w]) ++ List.replicate (3 - (lg_sl ([.ref b, .int c, .int w])).length) Slot.unset).toArray = ls at hl ⊢
  have hl : lv_has ls 3 [(0, .ref b), (1, .int c), (2, .int w)] := hl
  refine lv_aload_n hx hb dX7_carOf_0 rfl (lv_at hl 0 rfl) ?_
  refine lv_aload_n hx hb dX7_carOf_1 rfl (lv_at hl 0 rfl) ?_
  refine va_get (D := G.1) (ci := 5) (v := .ref (b + 2)) (C := RX7) (T := TX7) (N := 12) hx hb hts hin7 hown hO.1 hP 0 rfl rfl 3 (by decide) hf_13 (fun _ h9 => h9) rfl dX7_carOf_2 ?_
  refine lv_iload_n hx hb dX7_carOf_5 rfl (lv_at hl 1 rfl) ?_
  refine cl_pi (rS (As := [.ref (b + 2), .int c]) (rest := [.ref b]) ⟨hx, hb, hml, hown, hts⟩ (c_X7_isCar l G (b + 2) (mN M) c) (va_cwS 2 hts gX7_carOf_X7_isCar rfl rfl rfl (by decide +kernel) ⟨Nat.le_of_ble_eq_true rfl, Nat.le_of_ble_eq_true rfl⟩) (va_P.sub hP [2] rfl) hO rfl hl.1 (Nat.le_of_ble_eq_true rfl) dX7_carOf_6 ⟨Nat.le_of_ble_eq_true rfl, Nat.le_of_ble_eq_true rfl⟩) ?_
  refine lv_if_ne (tgt := 16) hx hb dX7_carOf_9 (by decide) (fun c_1 => ?_) (fun c_1 => ?_)
  · refine lv_iload_n hx hb dX7_carOf_16 rfl (lv_at hl 2 rfl) ?_
    refine lv_i2l (v := w.toInt64) hx hb dX7_carOf_17 rfl ?_
    refine lv_lconst (v := 0) hx hb dX7_carOf_18 (by decide) ?_
    refine lv_ldc2 (v := 6) hx hb hown (hts (.constantLong RX7 213 (6)) (by decide +kernel)) dX7_carOf_19 ?_
    refine cl_pi (rS (As := [.long w.toInt64, .long 0, .long 6]) (rest := [.ref b]) ⟨hx, hb, hml, hown, hts⟩ (c_X7_in l G w.toInt64 0 6) (va_cwS 3 hts gX7_carOf_X7_in rfl rfl rfl (by decide +kernel) ⟨Nat.le_of_ble_eq_true rfl, Nat.le_of_ble_eq_true rfl⟩) trivial hO rfl hl.1 (Nat.le_of_ble_eq_true rfl) dX7_carOf_22 ⟨Nat.le_of_ble_eq_true rfl, Nat.le_of_ble_eq_true rfl⟩) ?_
    refine lv_if_eq (tgt := 32) hx hb dX7_carOf_25 (by decide) (fun c_2 => ?_) (fun c_2 => ?_)
    · refine lv_iconst (v := 2) hx hb dX7_carOf_32 (by decide) ?_
      refine cl_mi (rV (As := [.int 2]) (rest := []) ⟨hx, hb, hml, hown, hts⟩ (c_X7_refused l G b M 2) (cwV 1 hts gX7_carOf_X7_refused rfl rfl rfl (by decide +kernel) ⟨Nat.le_of_ble_eq_true rfl, Nat.le_of_ble_eq_true rfl⟩) (md_recv hO hP) hP hO rfl hl.1 (Nat.le_of_ble_eq_true rfl) dX7_carOf_33 ⟨Nat.le_of_ble_eq_true rfl, Nat.le_of_ble_eq_true rfl⟩) hS hA (fun H locs hP1 hz hk hS => ?_)
      have hP : Md G b ((h_X7_refused M 2).2) H := hP1
      refine lv_if_eq (tgt := 41) hx hb dX7_carOf_36 (by decide) (fun c_3 => ?_) (fun c_3 => ?_)
      · exact absurd c_3 (ref_p2 _)
      · refine lv_iconst (v := 0) hx hb dX7_carOf_39 (by decide) ?_
        have hE : h_X7_carOf M c w = (0, (h_X7_refused M 2).2) := (by rw [h_X7_carOf, if_neg c_1, if_pos c_2])
        have hE2 := snd_of hE
        exact W.iret hx hb hr (fun t ht hW => ⟨by rw [fst_of hE], by rw [ht, hE2]; exact hP, hS.F ht⟩) hS.2.2 dX7_carOf_40
    · refine lv_iconst (v := 0) hx hb dX7_carOf_28 (by decide) ?_
      refine lv_goto (tgt := 33) hx hb dX7_carOf_29 (by decide) ?_
      refine cl_mi (rV (As := [.int 0]) (rest := []) ⟨hx, hb, hml, hown, hts⟩ (c_X7_refused l G b M 0) (cwV 1 hts gX7_carOf_X7_refused rfl rfl rfl (by decide +kernel) ⟨Nat.le_of_ble_eq_true rfl, Nat.le_of_ble_eq_true rfl⟩) (md_recv hO hP) hP hO rfl hl.1 (Nat.le_of_ble_eq_true rfl) dX7_carOf_33 ⟨Nat.le_of_ble_eq_true rfl, Nat.le_of_ble_eq_true rfl⟩) hS hA (fun H locs hP1 hz hk hS => ?_)
      have hP : Md G b ((h_X7_refused M 0).2) H := hP1
      refine lv_if_eq (tgt := 41) hx hb dX7_carOf_36 (by decide) (fun c_4 => ?_) (fun c_4 => ?_)
      · refine lv_iload_n hx hb dX7_carOf_41 rfl (lv_at hl 2 rfl) ?_
        refine lv_bipush (v := 6) hx hb dX7_carOf_42 (by decide) ?_
        refine lv_icmp_ge (tgt := 59) hx hb dX7_carOf_44 (by decide) (fun c_5 => ?_) (fun c_5 => ?_)
        · refine lv_aload_n hx hb dX7_carOf_59 rfl (lv_at hl 0 rfl) ?_
          refine va_get (D := G.1) (ci := 5) (v := .ref (b + 2)) (C := RX7) (T := TX7) (N := 12) hx hb hts hin7 hown hO.1 hP 0 rfl rfl 3 (by decide) hf_13 (fun _ h9 => h9) rfl dX7_carOf_60 ?_
          refine lv_iload_n hx hb dX7_carOf_63 rfl (lv_at hl 1 rfl) ?_
          refine cl_pi (rS (As := [.ref (b + 2), .int c]) (rest := []) ⟨hx, hb, hml, hown, hts⟩ (c_X7_isParked l G (b + 2) (mN ((h_X7_refused M 0).2)) c (by rw [ref_N]; exact hRI.M)) (va_cwS 2 hts gX7_carOf_X7_isParked rfl rfl rfl (by decide +kernel) ⟨Nat.le_of_ble_eq_true rfl, Nat.le_of_ble_eq_true rfl⟩) (va_P.sub hP [2] rfl) hO rfl hl.1 (Nat.le_of_ble_eq_true rfl) dX7_carOf_64 ⟨Nat.le_of_ble_eq_true rfl, Nat.le_of_ble_eq_true rfl⟩) ?_
          refine lv_if_eq (tgt := 92) hx hb dX7_carOf_67 (by decide) (fun c_6 => ?_) (fun c_6 => ?_)
          · refine lv_iconst (v := -1) hx hb dX7_carOf_92 (by decide) ?_
            have hE : h_X7_carOf M c w = ((-1), (h_X7_refused M 0).2) := (by rw [h_X7_carOf, if_neg c_1, if_neg c_2, if_pos c_5, if_pos c_6])
            have hE2 := snd_of hE
            exact W.iret hx hb hr (fun t ht hW => ⟨by rw [fst_of hE], by rw [ht, hE2]; exact hP, hS.F ht⟩) hS.2.2 dX7_carOf_93
          · refine lv_aload_n hx hb dX7_carOf_70 rfl (lv_at hl 0 rfl) ?_
            refine va_get (D := G.1) (ci := 5) (v := .ref (b + 2)) (C := RX7) (T := TX7) (N := 12) hx hb hts hin7 hown hO.1 hP 0 rfl rfl 3 (by decide) hf_13 (fun _ h9 => h9) rfl dX7_carOf_71 ?_
            refine lv_iload_n hx hb dX7_carOf_74 rfl (lv_at hl 1 rfl) ?_
            refine lv_iconst (v := 1) hx hb dX7_carOf_75 (by decide) ?_
            refine cl_pi (rS (As := [.ref (b + 2), .int c, .int 1]) (rest := []) ⟨hx, hb, hml, hown, hts⟩ (c_X7_of_raw l G (b + 2) (mN ((h_X7_refused M 0).2)) c 1 (car_r (M := M) (w := 0) hRI (by assumption)) (by decide)) (va_cwS 3 hts gX7_carOf_X7_of rfl rfl rfl (by decide +kernel) ⟨Nat.le_of_ble_eq_true rfl, Nat.le_of_ble_eq_true rfl⟩) (va_P.sub hP [2] rfl) hO rfl hl.1 (Nat.le_of_ble_eq_true rfl) dX7_carOf_76 ⟨Nat.le_of_ble_eq_true rfl, Nat.le_of_ble_eq_true rfl⟩) ?_
            refine lv_aload_n hx hb dX7_carOf_79 rfl (lv_at hl 0 rfl) ?_
            refine va_get (D := G.1) (ci := 5) (v := .ref (b + 2)) (C := RX7) (T := TX7) (N := 12) hx hb hts hin7 hown hO.1 hP 0 rfl rfl 3 (by decide) hf_13 (fun _ h9 => h9) rfl dX7_carOf_80 ?_
            refine lv_iload_n hx hb dX7_carOf_83 rfl (lv_at hl 1 rfl) ?_
            refine lv_iconst (v := 4) hx hb dX7_carOf_84 (by decide) ?_
            refine cl_pi (rS (As := [.ref (b + 2), .int c, .int 4]) (rest := [.int (f_X7_of (mN ((h_X7_refused M 0).2)) c.toNatClampNeg 1)]) ⟨hx, hb, hml, hown, hts⟩ (c_X7_of_raw l G (b + 2) (mN ((h_X7_refused M 0).2)) c 4 (car_r (M := M) (w := 0) hRI (by assumption)) (by decide)) (va_cwS 3 hts gX7_carOf_X7_of rfl rfl rfl (by decide +kernel) ⟨Nat.le_of_ble_eq_true rfl, Nat.le_of_ble_eq_true rfl⟩) (va_P.sub hP [2] rfl) hO rfl hl.1 (Nat.le_of_ble_eq_true rfl) dX7_carOf_85 ⟨Nat.le_of_ble_eq_true rfl, Nat.le_of_ble_eq_true rfl⟩) ?_
            refine lv_isub hx hb dX7_carOf_88 ?_
            refine lv_goto (tgt := 93) hx hb dX7_carOf_89 (by decide) ?_
            have hE : h_X7_carOf M c w = ((f_X7_of (mN ((h_X7_refused M 0).2)) c.toNatClampNeg 1) - (f_X7_of (mN ((h_X7_refused M 0).2)) c.toNatClampNeg 4), (h_X7_refused M 0).2) := (by rw [h_X7_carOf, if_neg c_1, if_neg c_2, if_pos c_5, if_neg c_6])
            have hE2 := snd_of hE
            exact W.iret hx hb hr (fun t ht hW => ⟨by rw [fst_of hE], by rw [ht, hE2]; exact hP, hS.F ht⟩) hS.2.2 dX7_carOf_93
        · refine lv_aload_n hx hb dX7_carOf_47 rfl (lv_at hl 0 rfl) ?_
          refine va_get (D := G.1) (ci := 5) (v := .ref (b + 2)) (C := RX7) (T := TX7) (N := 12) hx hb hts hin7 hown hO.1 hP 0 rfl rfl 3 (by decide) hf_13 (fun _ h9 => h9) rfl dX7_carOf_48 ?_
          refine lv_iload_n hx hb dX7_carOf_51 rfl (lv_at hl 1 rfl) ?_
          refine lv_iload_n hx hb dX7_carOf_52 rfl (lv_at hl 2 rfl) ?_
          refine cl_pi (rS (As := [.ref (b + 2), .int c, .int w]) (rest := []) ⟨hx, hb, hml, hown, hts⟩ (c_X7_of_raw2 l G (b + 2) (mN ((h_X7_refused M 0).2)) c w (car_r (M := M) (w := 0) hRI (by assumption)) (of_w6 (by assumption) (by assumption))) (va_cwS 3 hts gX7_carOf_X7_of rfl rfl rfl (by decide +kernel) ⟨Nat.le_of_ble_eq_true rfl, Nat.le_of_ble_eq_true rfl⟩) (va_P.sub hP [2] rfl) hO rfl hl.1 (Nat.le_of_ble_eq_true rfl) dX7_carOf_53 ⟨Nat.le_of_ble_eq_true rfl, Nat.le_of_ble_eq_true rfl⟩) ?_
          refine lv_goto (tgt := 93) hx hb dX7_carOf_56 (by decide) ?_
          have hE : h_X7_carOf M c w = (f_X7_of (mN ((h_X7_refused M 0).2)) c.toNatClampNeg w.toNatClampNeg, (h_X7_refused M 0).2) := (by rw [h_X7_carOf, if_neg c_1, if_neg c_2, if_neg c_5])
          have hE2 := snd_of hE
          exact W.iret hx hb hr (fun t ht hW => ⟨by rw [fst_of hE], by rw [ht, hE2]; exact hP, hS.F ht⟩) hS.2.2 dX7_carOf_93
      · exact absurd (ref_0 _) c_4
  · refine lv_iconst (v := 1) hx hb dX7_carOf_12 (by decide) ?_
    refine lv_goto (tgt := 33) hx hb dX7_carOf_13 (by decide) ?_
    refine cl_mi (rV (As := [.int 1]) (rest := []) ⟨hx, hb, hml, hown, hts⟩ (c_X7_refused l G b M 1) (cwV 1 hts gX7_carOf_X7_refused rfl rfl rfl (by decide +kernel) ⟨Nat.le_of_ble_eq_true rfl, Nat.le_of_ble_eq_true rfl⟩) (md_recv hO hP) hP hO rfl hl.1 (Nat.le_of_ble_eq_true rfl) dX7_carOf_33 ⟨Nat.le_of_ble_eq_true rfl, Nat.le_of_ble_eq_true rfl⟩) hS hA (fun H locs hP1 hz hk hS => ?_)
    have hP : Md G b ((h_X7_refused M 1).2) H := hP1
    refine lv_if_eq (tgt := 41) hx hb dX7_carOf_36 (by decide) (fun c_7 => ?_) (fun c_7 => ?_)
    · exact absurd c_7 (ref_p1 _)
    · refine lv_iconst (v := 0) hx hb dX7_carOf_39 (by decide) ?_
      have hE : h_X7_carOf M c w = (0, (h_X7_refused M 1).2) := (by rw [h_X7_carOf, if_pos c_1])
      have hE2 := snd_of hE
      exact W.iret hx hb hr (fun t ht hW => ⟨by rw [fst_of hE], by rw [ht, hE2]; exact hP, hS.F ht⟩) hS.2.2 dX7_carOf_40
