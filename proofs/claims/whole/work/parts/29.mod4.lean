theorem rr_N (M : Mo) (w : Int32) : mN (h_X7_remember (h_X7_refused M w).2) = mN M := by rw [rem_N, ref_N]
theorem RI_rr {M : Mo} {w : Int32} (h : RI (mN M)) : RI (mN (h_X7_remember (h_X7_refused M w).2)) := by
  rw [rr_N]
  exact h
theorem len_n {x : Int32} (h : ¬ f_X7_isLength x = 0) : ∃ j, j ≤ 8 ∧ x = nI j := by
  rw [f_X7_isLength] at h
  have h1 := in_ne h
  rw [i64, show (2 : Int64).toInt = 2 by decide, show (8 : Int64).toInt = 8 by decide] at h1
  obtain ⟨j, hj, rfl⟩ := nI_of (x := x) (by rw [Int32.lt_iff_toInt_lt, Int32.toInt_zero]; omega)
  rw [nI_toInt hj] at h1
  exact ⟨j, by omega, rfl⟩
theorem set_w {w v : Int32} (h : ¬ f_X7_isSetting w v = 0) : ∃ j, j < 3 ∧ w = nI j := by
  rw [f_X7_isSetting] at h
  by_cases c0 : w = 0
  · exact ⟨0, by omega, c0⟩
  · by_cases c1 : w = 1
    · exact ⟨1, by omega, c1⟩
    · by_cases c2 : w = 2
      · exact ⟨2, by omega, c2⟩
      · simp only [c0, c1, c2, if_false] at h
        exact absurd trivial h
theorem rcell_n {x : Int32} (h : ¬ f_X7_isCell x = 0) : ∃ j, j < 80 ∧ x = nI j := by
  have h1 := rcell h
  obtain ⟨j, hj, rfl⟩ := nI_of (x := x) (by rw [Int32.lt_iff_toInt_lt, Int32.toInt_zero]; omega)
  rw [nI_toInt hj] at h1
  exact ⟨j, by omega, rfl⟩
theorem c_X7_change_raw (l : Launch) (G : GG) (a : Nat) (g : Rw) (w v : Int32) (hw3 : ∃ j, j < 3 ∧ w = nI j) : Met l yX7_change wsX7_change ({ frames := 0, cells := 0, slots := 0, locals := 0 }) (PcH G [.ref a, .int w, .int v] (Arr G 0 a 327 g)) (QM (some (.int (h_X7_change g w.toNatClampNeg v).1)) (Arr G 0 a 327 (h_X7_change g w.toNatClampNeg v).2) (one a)) 0 0 (one a) := by
  obtain ⟨j, hj, rfl⟩ := hw3
  rw [nI_clamp (by omega)]
  exact c_X7_change l G a g j v hj
theorem c_X7_hydrantOn_raw (l : Launch) (G : GG) (a : Nat) (g : Rw) (x on : Int32) (hx8 : ∃ j, j < 80 ∧ x = nI j) : Met l yX7_hydrantOn wsX7_hydrantOn ({ frames := 1, cells := 0, slots := 0, locals := 23 }) (PcH G [.ref a, .int x, .int on] (Arr G 0 a 327 g)) (QM (some (.int (h_X7_hydrantOn g x.toNatClampNeg on).1)) (Arr G 0 a 327 (h_X7_hydrantOn g x.toNatClampNeg on).2) (one a)) 0 0 (one a) := by
  obtain ⟨j, hj, rfl⟩ := hx8
  rw [nI_clamp (by omega)]
  exact c_X7_hydrantOn l G a g j on hj

def h_X7_set (M : Mo) (w : Int32) (v : Int32) : Int32 × Mo :=
  if (f_X7_isSetting w v) = 0 then (0, (h_X7_refused M 1).2) else
  ((h_X7_change (mN (h_X7_remember ((h_X7_refused M 0).2))) w.toNatClampNeg v).1, (oN (h_X7_remember ((h_X7_refused M 0).2)) ((h_X7_change (mN (h_X7_remember ((h_X7_refused M 0).2))) w.toNatClampNeg v).2)))
set_option maxHeartbeats 4000000 in
set_option maxRecDepth 100000 in
theorem c_X7_set (l : Launch) (G : GG) (b : Nat) (M : Mo) (w : Int32) (v : Int32) (hRI : RI (mN M)) (hac : mC M = nI (ac M)) (hac14 : ac M ≤ 14) : Met l yX7_set wsX7_set ({ frames := 2, cells := 0, slots := 0, locals := 46 }) (PcH G [.ref b, .int w, .int v] (Md G b M)) (QM (some (.int ((h_X7_set M w v).1))) (Md G b ((h_X7_set M w v).2)) (blk b (b + 8))) 0 0 (blk b (b + 8)) := by
  refine metH (cc := cX7_set) (maxL := 3) (ret := (some .int)) (by decide) rfl ?_
  intro p e s m below meth cd hx hb hr hml hown hts hlocks hP hO
  have hin7 : ∀ w ∈ u_ws RX7 TX7 12, w ∈ wsX7_set := by decide +kernel
  have hf_13 := hts (.fieldLink RX7 13 "CurbCarsModel" "now" "[I") (by decide +kernel)
  have hA : ∀ q, (blk b (b + 8)) q → (blk b (b + 8)) q := fun _ h => h
  have hS : va_S (blk b (b + 8)) s.heap s.heap [] := va_S.rf
  have hl := lv_entry ([.ref b, .int w, .int v]) (n := 3) (Nat.le_of_ble_eq_true rfl)
  rw [lg_entry_eq]
  generalize (lg_sl ([.ref b, .int w, .int v]) ++ List.replicate (3 - (lg_sl ([.ref b, .int w, .int v])).length) Slot.unset).toArray = ls at hl ⊢
  have hl : lv_has ls 3 [(0, .ref b), (1, .int w), (2, .int v)] := hl
  refine lv_aload_n hx hb dX7_set_0 rfl (lv_at hl 0 rfl) ?_
  refine lv_iload_n hx hb dX7_set_1 rfl (lv_at hl 1 rfl) ?_
  refine lv_iload_n hx hb dX7_set_2 rfl (lv_at hl 2 rfl) ?_
  refine cl_pi (rS (As := [.int w, .int v]) (rest := [.ref b]) ⟨hx, hb, hml, hown, hts⟩ (c_X7_isSetting l G w v) (va_cwS 2 hts gX7_set_X7_isSetting rfl rfl rfl (by decide +kernel) ⟨Nat.le_of_ble_eq_true rfl, Nat.le_of_ble_eq_true rfl⟩) trivial hO rfl hl.1 (Nat.le_of_ble_eq_true rfl) dX7_set_3 ⟨Nat.le_of_ble_eq_true rfl, Nat.le_of_ble_eq_true rfl⟩) ?_
  refine lv_if_eq (tgt := 13) hx hb dX7_set_6 (by decide) (fun c_1 => ?_) (fun c_1 => ?_)
  · refine lv_iconst (v := 1) hx hb dX7_set_13 (by decide) ?_
    refine cl_mi (rV (As := [.int 1]) (rest := []) ⟨hx, hb, hml, hown, hts⟩ (c_X7_refused l G b M 1) (cwV 1 hts gX7_set_X7_refused rfl rfl rfl (by decide +kernel) ⟨Nat.le_of_ble_eq_true rfl, Nat.le_of_ble_eq_true rfl⟩) (md_recv hO hP) hP hO rfl hl.1 (Nat.le_of_ble_eq_true rfl) dX7_set_14 ⟨Nat.le_of_ble_eq_true rfl, Nat.le_of_ble_eq_true rfl⟩) hS hA (fun H locs hP1 hz hk hS => ?_)
    have hP : Md G b ((h_X7_refused M 1).2) H := hP1
    refine lv_if_eq (tgt := 22) hx hb dX7_set_17 (by decide) (fun c_2 => ?_) (fun c_2 => ?_)
    · exact absurd c_2 (ref_p1 _)
    · refine lv_iconst (v := 0) hx hb dX7_set_20 (by decide) ?_
      have hE : h_X7_set M w v = (0, (h_X7_refused M 1).2) := (by rw [h_X7_set, if_pos c_1])
      have hE2 := snd_of hE
      exact W.iret hx hb hr (fun t ht hW => ⟨by rw [fst_of hE], by rw [ht, hE2]; exact hP, hS.F ht⟩) hS.2.2 dX7_set_21
  · refine lv_iconst (v := 0) hx hb dX7_set_9 (by decide) ?_
    refine lv_goto (tgt := 14) hx hb dX7_set_10 (by decide) ?_
    refine cl_mi (rV (As := [.int 0]) (rest := []) ⟨hx, hb, hml, hown, hts⟩ (c_X7_refused l G b M 0) (cwV 1 hts gX7_set_X7_refused rfl rfl rfl (by decide +kernel) ⟨Nat.le_of_ble_eq_true rfl, Nat.le_of_ble_eq_true rfl⟩) (md_recv hO hP) hP hO rfl hl.1 (Nat.le_of_ble_eq_true rfl) dX7_set_14 ⟨Nat.le_of_ble_eq_true rfl, Nat.le_of_ble_eq_true rfl⟩) hS hA (fun H locs hP1 hz hk hS => ?_)
    have hP : Md G b ((h_X7_refused M 0).2) H := hP1
    refine lv_if_eq (tgt := 22) hx hb dX7_set_17 (by decide) (fun c_3 => ?_) (fun c_3 => ?_)
    · refine lv_aload_n hx hb dX7_set_22 rfl (lv_at hl 0 rfl) ?_
      refine cl_mv (rV (As := []) (rest := []) ⟨hx, hb, hml, hown, hts⟩ (c_X7_remember l G b ((h_X7_refused M 0).2) (by rw [ref_C, ref_ac]; exact hac) (by rw [ref_ac]; exact hac14)) (cwV 0 hts gX7_set_X7_remember rfl rfl rfl (by decide +kernel) ⟨Nat.le_of_ble_eq_true rfl, Nat.le_of_ble_eq_true rfl⟩) (md_recv hO hP) hP hO rfl hl.1 (Nat.le_of_ble_eq_true rfl) dX7_set_23 ⟨Nat.le_of_ble_eq_true rfl, Nat.le_of_ble_eq_true rfl⟩) hS hA (fun H locs hP1 hz hk hS => ?_)
      have hP : Md G b (h_X7_remember ((h_X7_refused M 0).2)) H := hP1
      refine lv_aload_n hx hb dX7_set_26 rfl (lv_at hl 0 rfl) ?_
      refine va_get (D := G.1) (ci := 5) (v := .ref (b + 2)) (C := RX7) (T := TX7) (N := 12) hx hb hts hin7 hown hO.1 hP 0 rfl rfl 3 (by decide) hf_13 (fun _ h9 => h9) rfl dX7_set_27 ?_
      refine lv_iload_n hx hb dX7_set_30 rfl (lv_at hl 1 rfl) ?_
      refine lv_iload_n hx hb dX7_set_31 rfl (lv_at hl 2 rfl) ?_
      refine cl_mi (rS (As := [.ref (b + 2), .int w, .int v]) (rest := []) ⟨hx, hb, hml, hown, hts⟩ (c_X7_change_raw l G (b + 2) (mN (h_X7_remember ((h_X7_refused M 0).2))) w v (set_w (by assumption))) (va_cwS 3 hts gX7_set_X7_change rfl rfl rfl (by decide +kernel) ⟨Nat.le_of_ble_eq_true rfl, Nat.le_of_ble_eq_true rfl⟩) (va_P.sub hP [2] rfl) hO rfl hl.1 (Nat.le_of_ble_eq_true rfl) dX7_set_32 ⟨Nat.le_of_ble_eq_true rfl, Nat.le_of_ble_eq_true rfl⟩) hS (fun q h => hA q (by simp only [one, blk] at *; omega)) (fun H locs hP1 hz hk hS => ?_)
      have hP : Md G b (oN (h_X7_remember ((h_X7_refused M 0).2)) ((h_X7_change (mN (h_X7_remember ((h_X7_refused M 0).2))) w.toNatClampNeg v).2)) H := md_pN (mo_row 2 hP rfl hP1 hk)
      have hE : h_X7_set M w v = ((h_X7_change (mN (h_X7_remember ((h_X7_refused M 0).2))) w.toNatClampNeg v).1, (oN (h_X7_remember ((h_X7_refused M 0).2)) ((h_X7_change (mN (h_X7_remember ((h_X7_refused M 0).2))) w.toNatClampNeg v).2))) := (by rw [h_X7_set, if_neg c_1])
      have hE2 := snd_of hE
      exact W.iret hx hb hr (fun t ht hW => ⟨by rw [fst_of hE], by rw [ht, hE2]; exact hP, hS.F ht⟩) hS.2.2 dX7_set_35
    · exact absurd (ref_0 _) c_3

def h_X7_minutes (M : Mo) (x : Int32) : Int32 × Mo :=
  if (f_X7_in x.toInt64 1 60) = 0 then (0, (h_X7_refused M 1).2) else
  ((h_X7_minutesOn (mN (h_X7_remember ((h_X7_refused M 0).2))) x).1, (oN (h_X7_remember ((h_X7_refused M 0).2)) ((h_X7_minutesOn (mN (h_X7_remember ((h_X7_refused M 0).2))) x).2)))
set_option maxHeartbeats 4000000 in
set_option maxRecDepth 100000 in
theorem c_X7_minutes (l : Launch) (G : GG) (b : Nat) (M : Mo) (x : Int32) (hRI : RI (mN M)) (hac : mC M = nI (ac M)) (hac14 : ac M ≤ 14) : Met l yX7_minutes wsX7_minutes ({ frames := 7, cells := 0, slots := 0, locals := 158 }) (PcH G [.ref b, .int x] (Md G b M)) (QM (some (.int ((h_X7_minutes M x).1))) (Md G b ((h_X7_minutes M x).2)) (blk b (b + 8))) 0 0 (blk b (b + 8)) := by
  refine metH (cc := cX7_minutes) (maxL := 2) (ret := (some .int)) (by decide) rfl ?_
  intro p e s m below meth cd hx hb hr hml hown hts hlocks hP hO
  have hin7 : ∀ w ∈ u_ws RX7 TX7 12, w ∈ wsX7_minutes := by decide +kernel
  have hf_13 := hts (.fieldLink RX7 13 "CurbCarsModel" "now" "[I") (by decide +kernel)
  have hA : ∀ q, (blk b (b + 8)) q → (blk b (b + 8)) q := fun _ h => h
  have hS : va_S (blk b (b + 8)) s.heap s.heap [] := va_S.rf
  have hl := lv_entry ([.ref b, .int x]) (n := 2) (Nat.le_of_ble_eq_true rfl)
  rw [lg_entry_eq]
  generalize (lg_sl ([.ref b, .int x]) ++ List.replicate (2 - (lg_sl ([.ref b, .int x])).length) Slot.unset).toArray = ls at hl ⊢
  have hl : lv_has ls 2 [(0, .ref b), (1, .int x)] := hl
  refine lv_aload_n hx hb dX7_minutes_0 rfl (lv_at hl 0 rfl) ?_
  refine lv_iload_n hx hb dX7_minutes_1 rfl (lv_at hl 1 rfl) ?_
  refine lv_i2l (v := x.toInt64) hx hb dX7_minutes_2 rfl ?_
  refine lv_lconst (v := 1) hx hb dX7_minutes_3 (by decide) ?_
  refine lv_ldc2 (v := 60) hx hb hown (hts (.constantLong RX7 226 (60)) (by decide +kernel)) dX7_minutes_4 ?_
  refine cl_pi (rS (As := [.long x.toInt64, .long 1, .long 60]) (rest := [.ref b]) ⟨hx, hb, hml, hown, hts⟩ (c_X7_in l G x.toInt64 1 60) (va_cwS 3 hts gX7_minutes_X7_in rfl rfl rfl (by decide +kernel) ⟨Nat.le_of_ble_eq_true rfl, Nat.le_of_ble_eq_true rfl⟩) trivial hO rfl hl.1 (Nat.le_of_ble_eq_true rfl) dX7_minutes_7 ⟨Nat.le_of_ble_eq_true rfl, Nat.le_of_ble_eq_true rfl⟩) ?_
  refine lv_if_eq (tgt := 17) hx hb dX7_minutes_10 (by decide) (fun c_1 => ?_) (fun c_1 => ?_)
  · refine lv_iconst (v := 1) hx hb dX7_minutes_17 (by decide) ?_
    refine cl_mi (rV (As := [.int 1]) (rest := []) ⟨hx, hb, hml, hown, hts⟩ (c_X7_refused l G b M 1) (cwV 1 hts gX7_minutes_X7_refused rfl rfl rfl (by decide +kernel) ⟨Nat.le_of_ble_eq_true rfl, Nat.le_of_ble_eq_true rfl⟩) (md_recv hO hP) hP hO rfl hl.1 (Nat.le_of_ble_eq_true rfl) dX7_minutes_18 ⟨Nat.le_of_ble_eq_true rfl, Nat.le_of_ble_eq_true rfl⟩) hS hA (fun H locs hP1 hz hk hS => ?_)
    have hP : Md G b ((h_X7_refused M 1).2) H := hP1
    refine lv_if_eq (tgt := 26) hx hb dX7_minutes_21 (by decide) (fun c_2 => ?_) (fun c_2 => ?_)
    · exact absurd c_2 (ref_p1 _)
    · refine lv_iconst (v := 0) hx hb dX7_minutes_24 (by decide) ?_
      have hE : h_X7_minutes M x = (0, (h_X7_refused M 1).2) := (by rw [h_X7_minutes, if_pos c_1])
      have hE2 := snd_of hE
      exact W.iret hx hb hr (fun t ht hW => ⟨by rw [fst_of hE], by rw [ht, hE2]; exact hP, hS.F ht⟩) hS.2.2 dX7_minutes_25
  · refine lv_iconst (v := 0) hx hb dX7_minutes_13 (by decide) ?_
    refine lv_goto (tgt := 18) hx hb dX7_minutes_14 (by decide) ?_
    refine cl_mi (rV (As := [.int 0]) (rest := []) ⟨hx, hb, hml, hown, hts⟩ (c_X7_refused l G b M 0) (cwV 1 hts gX7_minutes_X7_refused rfl rfl rfl (by decide +kernel) ⟨Nat.le_of_ble_eq_true rfl, Nat.le_of_ble_eq_true rfl⟩) (md_recv hO hP) hP hO rfl hl.1 (Nat.le_of_ble_eq_true rfl) dX7_minutes_18 ⟨Nat.le_of_ble_eq_true rfl, Nat.le_of_ble_eq_true rfl⟩) hS hA (fun H locs hP1 hz hk hS => ?_)
    have hP : Md G b ((h_X7_refused M 0).2) H := hP1
    refine lv_if_eq (tgt := 26) hx hb dX7_minutes_21 (by decide) (fun c_3 => ?_) (fun c_3 => ?_)
    · refine lv_aload_n hx hb dX7_minutes_26 rfl (lv_at hl 0 rfl) ?_
      refine cl_mv (rV (As := []) (rest := []) ⟨hx, hb, hml, hown, hts⟩ (c_X7_remember l G b ((h_X7_refused M 0).2) (by rw [ref_C, ref_ac]; exact hac) (by rw [ref_ac]; exact hac14)) (cwV 0 hts gX7_minutes_X7_remember rfl rfl rfl (by decide +kernel) ⟨Nat.le_of_ble_eq_true rfl, Nat.le_of_ble_eq_true rfl⟩) (md_recv hO hP) hP hO rfl hl.1 (Nat.le_of_ble_eq_true rfl) dX7_minutes_27 ⟨Nat.le_of_ble_eq_true rfl, Nat.le_of_ble_eq_true rfl⟩) hS hA (fun H locs hP1 hz hk hS => ?_)
      have hP : Md G b (h_X7_remember ((h_X7_refused M 0).2)) H := hP1
      refine lv_aload_n hx hb dX7_minutes_30 rfl (lv_at hl 0 rfl) ?_
      refine va_get (D := G.1) (ci := 5) (v := .ref (b + 2)) (C := RX7) (T := TX7) (N := 12) hx hb hts hin7 hown hO.1 hP 0 rfl rfl 3 (by decide) hf_13 (fun _ h9 => h9) rfl dX7_minutes_31 ?_
      refine lv_iload_n hx hb dX7_minutes_34 rfl (lv_at hl 1 rfl) ?_
      refine cl_mi (rS (As := [.ref (b + 2), .int x]) (rest := []) ⟨hx, hb, hml, hown, hts⟩ (c_X7_minutesOn l G (b + 2) (mN (h_X7_remember ((h_X7_refused M 0).2))) x (RI_rr hRI)) (va_cwS 2 hts gX7_minutes_X7_minutesOn rfl rfl rfl (by decide +kernel) ⟨Nat.le_of_ble_eq_true rfl, Nat.le_of_ble_eq_true rfl⟩) (va_P.sub hP [2] rfl) hO rfl hl.1 (Nat.le_of_ble_eq_true rfl) dX7_minutes_35 ⟨Nat.le_of_ble_eq_true rfl, Nat.le_of_ble_eq_true rfl⟩) hS (fun q h => hA q (by simp only [one, blk] at *; omega)) (fun H locs hP1 hz hk hS => ?_)
      have hP : Md G b (oN (h_X7_remember ((h_X7_refused M 0).2)) ((h_X7_minutesOn (mN (h_X7_remember ((h_X7_refused M 0).2))) x).2)) H := md_pN (mo_row 2 hP rfl hP1 hk)
      have hE : h_X7_minutes M x = ((h_X7_minutesOn (mN (h_X7_remember ((h_X7_refused M 0).2))) x).1, (oN (h_X7_remember ((h_X7_refused M 0).2)) ((h_X7_minutesOn (mN (h_X7_remember ((h_X7_refused M 0).2))) x).2))) := (by rw [h_X7_minutes, if_neg c_1])
      have hE2 := snd_of hE
      exact W.iret hx hb hr (fun t ht hW => ⟨by rw [fst_of hE], by rw [ht, hE2]; exact hP, hS.F ht⟩) hS.2.2 dX7_minutes_38
    · exact absurd (ref_0 _) c_3

def h_X7_hydrant (M : Mo) (x : Int32) (on : Int32) : Int32 × Mo :=
  if (f_X7_isCell x) = 0 then (0, (h_X7_refused M 1).2) else
  if (f_X7_canHydrant (mN M) x on) = 0 then (0, (h_X7_refused M 2).2) else
  ((h_X7_hydrantOn (mN (h_X7_remember ((h_X7_refused M 0).2))) x.toNatClampNeg on).1, (oN (h_X7_remember ((h_X7_refused M 0).2)) ((h_X7_hydrantOn (mN (h_X7_remember ((h_X7_refused M 0).2))) x.toNatClampNeg on).2)))
set_option maxHeartbeats 4000000 in
set_option maxRecDepth 100000 in
theorem c_X7_hydrant (l : Launch) (G : GG) (b : Nat) (M : Mo) (x : Int32) (on : Int32) (hRI : RI (mN M)) (hac : mC M = nI (ac M)) (hac14 : ac M ≤ 14) : Met l yX7_hydrant wsX7_hydrant ({ frames := 3, cells := 0, slots := 0, locals := 67 }) (PcH G [.ref b, .int x, .int on] (Md G b M)) (QM (some (.int ((h_X7_hydrant M x on).1))) (Md G b ((h_X7_hydrant M x on).2)) (blk b (b + 8))) 0 0 (blk b (b + 8)) := by
  refine metH (cc := cX7_hydrant) (maxL := 3) (ret := (some .int)) (by decide) rfl ?_
  intro p e s m below meth cd hx hb hr hml hown hts hlocks hP hO
  have hin7 : ∀ w ∈ u_ws RX7 TX7 12, w ∈ wsX7_hydrant := by decide +kernel
  have hf_13 := hts (.fieldLink RX7 13 "CurbCarsModel" "now" "[I") (by decide +kernel)
  have hA : ∀ q, (blk b (b + 8)) q → (blk b (b + 8)) q := fun _ h => h
  have hS : va_S (blk b (b + 8)) s.heap s.heap [] := va_S.rf
  have hl := lv_entry ([.ref b, .int x, .int on]) (n := 3) (Nat.le_of_ble_eq_true rfl)
  rw [lg_entry_eq]
  generalize (lg_sl ([.ref b, .int x, .int on]) ++ List.replicate (3 - (lg_sl ([.ref b, .int x, .int on])).length) Slot.unset).toArray = ls at hl ⊢
  have hl : lv_has ls 3 [(0, .ref b), (1, .int x), (2, .int on)] := hl
  refine lv_aload_n hx hb dX7_hydrant_0 rfl (lv_at hl 0 rfl) ?_
  refine lv_iload_n hx hb dX7_hydrant_1 rfl (lv_at hl 1 rfl) ?_
  refine cl_pi (rS (As := [.int x]) (rest := [.ref b]) ⟨hx, hb, hml, hown, hts⟩ (c_X7_isCell l G x) (va_cwS 1 hts gX7_hydrant_X7_isCell rfl rfl rfl (by decide +kernel) ⟨Nat.le_of_ble_eq_true rfl, Nat.le_of_ble_eq_true rfl⟩) trivial hO rfl hl.1 (Nat.le_of_ble_eq_true rfl) dX7_hydrant_2 ⟨Nat.le_of_ble_eq_true rfl, Nat.le_of_ble_eq_true rfl⟩) ?_
  refine lv_if_ne (tgt := 12) hx hb dX7_hydrant_5 (by decide) (fun c_1 => ?_) (fun c_1 => ?_)
  · refine lv_aload_n hx hb dX7_hydrant_12 rfl (lv_at hl 0 rfl) ?_
    refine va_get (D := G.1) (ci := 5) (v := .ref (b + 2)) (C := RX7) (T := TX7) (N := 12) hx hb hts hin7 hown hO.1 hP 0 rfl rfl 3 (by decide) hf_13 (fun _ h9 => h9) rfl dX7_hydrant_13 ?_
    refine lv_iload_n hx hb dX7_hydrant_16 rfl (lv_at hl 1 rfl) ?_
    refine lv_iload_n hx hb dX7_hydrant_17 rfl (lv_at hl 2 rfl) ?_
    refine cl_pi (rS (As := [.ref (b + 2), .int x, .int on]) (rest := [.ref b]) ⟨hx, hb, hml, hown, hts⟩ (c_X7_canHydrant l G (b + 2) (mN M) x on) (va_cwS 3 hts gX7_hydrant_X7_canHydrant rfl rfl rfl (by decide +kernel) ⟨Nat.le_of_ble_eq_true rfl, Nat.le_of_ble_eq_true rfl⟩) (va_P.sub hP [2] rfl) hO rfl hl.1 (Nat.le_of_ble_eq_true rfl) dX7_hydrant_18 ⟨Nat.le_of_ble_eq_true rfl, Nat.le_of_ble_eq_true rfl⟩) ?_
    refine lv_if_eq (tgt := 28) hx hb dX7_hydrant_21 (by decide) (fun c_2 => ?_) (fun c_2 => ?_)
    · refine lv_iconst (v := 2) hx hb dX7_hydrant_28 (by decide) ?_
      refine cl_mi (rV (As := [.int 2]) (rest := []) ⟨hx, hb, hml, hown, hts⟩ (c_X7_refused l G b M 2) (cwV 1 hts gX7_hydrant_X7_refused rfl rfl rfl (by decide +kernel) ⟨Nat.le_of_ble_eq_true rfl, Nat.le_of_ble_eq_true rfl⟩) (md_recv hO hP) hP hO rfl hl.1 (Nat.le_of_ble_eq_true rfl) dX7_hydrant_29 ⟨Nat.le_of_ble_eq_true rfl, Nat.le_of_ble_eq_true rfl⟩) hS hA (fun H locs hP1 hz hk hS => ?_)
      have hP : Md G b ((h_X7_refused M 2).2) H := hP1
      refine lv_if_eq (tgt := 37) hx hb dX7_hydrant_32 (by decide) (fun c_3 => ?_) (fun c_3 => ?_)
      · exact absurd c_3 (ref_p2 _)
      · refine lv_iconst (v := 0) hx hb dX7_hydrant_35 (by decide) ?_
        have hE : h_X7_hydrant M x on = (0, (h_X7_refused M 2).2) := (by rw [h_X7_hydrant, if_neg c_1, if_pos c_2])
        have hE2 := snd_of hE
        exact W.iret hx hb hr (fun t ht hW => ⟨by rw [fst_of hE], by rw [ht, hE2]; exact hP, hS.F ht⟩) hS.2.2 dX7_hydrant_36
    · refine lv_iconst (v := 0) hx hb dX7_hydrant_24 (by decide) ?_
      refine lv_goto (tgt := 29) hx hb dX7_hydrant_25 (by decide) ?_
      refine cl_mi (rV (As := [.int 0]) (rest := []) ⟨hx, hb, hml, hown, hts⟩ (c_X7_refused l G b M 0) (cwV 1 hts gX7_hydrant_X7_refused rfl rfl rfl (by decide +kernel) ⟨Nat.le_of_ble_eq_true rfl, Nat.le_of_ble_eq_true rfl⟩) (md_recv hO hP) hP hO rfl hl.1 (Nat.le_of_ble_eq_true rfl) dX7_hydrant_29 ⟨Nat.le_of_ble_eq_true rfl, Nat.le_of_ble_eq_true rfl⟩) hS hA (fun H locs hP1 hz hk hS => ?_)
      have hP : Md G b ((h_X7_refused M 0).2) H := hP1
      refine lv_if_eq (tgt := 37) hx hb dX7_hydrant_32 (by decide) (fun c_4 => ?_) (fun c_4 => ?_)
      · refine lv_aload_n hx hb dX7_hydrant_37 rfl (lv_at hl 0 rfl) ?_
        refine cl_mv (rV (As := []) (rest := []) ⟨hx, hb, hml, hown, hts⟩ (c_X7_remember l G b ((h_X7_refused M 0).2) (by rw [ref_C, ref_ac]; exact hac) (by rw [ref_ac]; exact hac14)) (cwV 0 hts gX7_hydrant_X7_remember rfl rfl rfl (by decide +kernel) ⟨Nat.le_of_ble_eq_true rfl, Nat.le_of_ble_eq_true rfl⟩) (md_recv hO hP) hP hO rfl hl.1 (Nat.le_of_ble_eq_true rfl) dX7_hydrant_38 ⟨Nat.le_of_ble_eq_true rfl, Nat.le_of_ble_eq_true rfl⟩) hS hA (fun H locs hP1 hz hk hS => ?_)
        have hP : Md G b (h_X7_remember ((h_X7_refused M 0).2)) H := hP1
        refine lv_aload_n hx hb dX7_hydrant_41 rfl (lv_at hl 0 rfl) ?_
        refine va_get (D := G.1) (ci := 5) (v := .ref (b + 2)) (C := RX7) (T := TX7) (N := 12) hx hb hts hin7 hown hO.1 hP 0 rfl rfl 3 (by decide) hf_13 (fun _ h9 => h9) rfl dX7_hydrant_42 ?_
        refine lv_iload_n hx hb dX7_hydrant_45 rfl (lv_at hl 1 rfl) ?_
        refine lv_iload_n hx hb dX7_hydrant_46 rfl (lv_at hl 2 rfl) ?_
        refine cl_mi (rS (As := [.ref (b + 2), .int x, .int on]) (rest := []) ⟨hx, hb, hml, hown, hts⟩ (c_X7_hydrantOn_raw l G (b + 2) (mN (h_X7_remember ((h_X7_refused M 0).2))) x on (rcell_n (by assumption))) (va_cwS 3 hts gX7_hydrant_X7_hydrantOn rfl rfl rfl (by decide +kernel) ⟨Nat.le_of_ble_eq_true rfl, Nat.le_of_ble_eq_true rfl⟩) (va_P.sub hP [2] rfl) hO rfl hl.1 (Nat.le_of_ble_eq_true rfl) dX7_hydrant_47 ⟨Nat.le_of_ble_eq_true rfl, Nat.le_of_ble_eq_true rfl⟩) hS (fun q h => hA q (by simp only [one, blk] at *; omega)) (fun H locs hP1 hz hk hS => ?_)
        have hP : Md G b (oN (h_X7_remember ((h_X7_refused M 0).2)) ((h_X7_hydrantOn (mN (h_X7_remember ((h_X7_refused M 0).2))) x.toNatClampNeg on).2)) H := md_pN (mo_row 2 hP rfl hP1 hk)
        have hE : h_X7_hydrant M x on = ((h_X7_hydrantOn (mN (h_X7_remember ((h_X7_refused M 0).2))) x.toNatClampNeg on).1, (oN (h_X7_remember ((h_X7_refused M 0).2)) ((h_X7_hydrantOn (mN (h_X7_remember ((h_X7_refused M 0).2))) x.toNatClampNeg on).2))) := (by rw [h_X7_hydrant, if_neg c_1, if_neg c_2])
        have hE2 := snd_of hE
        exact W.iret hx hb hr (fun t ht hW => ⟨by rw [fst_of hE], by rw [ht, hE2]; exact hP, hS.F ht⟩) hS.2.2 dX7_hydrant_50
      · exact absurd (ref_0 _) c_4
  · refine lv_iconst (v := 1) hx hb dX7_hydrant_8 (by decide) ?_
    refine lv_goto (tgt := 29) hx hb dX7_hydrant_9 (by decide) ?_
    refine cl_mi (rV (As := [.int 1]) (rest := []) ⟨hx, hb, hml, hown, hts⟩ (c_X7_refused l G b M 1) (cwV 1 hts gX7_hydrant_X7_refused rfl rfl rfl (by decide +kernel) ⟨Nat.le_of_ble_eq_true rfl, Nat.le_of_ble_eq_true rfl⟩) (md_recv hO hP) hP hO rfl hl.1 (Nat.le_of_ble_eq_true rfl) dX7_hydrant_29 ⟨Nat.le_of_ble_eq_true rfl, Nat.le_of_ble_eq_true rfl⟩) hS hA (fun H locs hP1 hz hk hS => ?_)
    have hP : Md G b ((h_X7_refused M 1).2) H := hP1
    refine lv_if_eq (tgt := 37) hx hb dX7_hydrant_32 (by decide) (fun c_5 => ?_) (fun c_5 => ?_)
    · exact absurd c_5 (ref_p1 _)
    · refine lv_iconst (v := 0) hx hb dX7_hydrant_35 (by decide) ?_
      have hE : h_X7_hydrant M x on = (0, (h_X7_refused M 1).2) := (by rw [h_X7_hydrant, if_pos c_1])
      have hE2 := snd_of hE
      exact W.iret hx hb hr (fun t ht hW => ⟨by rw [fst_of hE], by rw [ht, hE2]; exact hP, hS.F ht⟩) hS.2.2 dX7_hydrant_36

def h_X7_come (M : Mo) (len : Int32) (stay : Int32) : Int32 × Mo :=
  if (f_X7_isLength len) = 0 then (0, (h_X7_refused M 1).2) else
  if (f_X7_in stay.toInt64 1 99) = 0 then (0, (h_X7_refused M 1).2) else
  if 40 ≤ ((mN M) 0) then (0, (h_X7_refused M 2).2) else
  ((h_X7_comeOn (mN (h_X7_remember ((h_X7_refused M 0).2))) len stay).1, (oN (h_X7_remember ((h_X7_refused M 0).2)) ((h_X7_comeOn (mN (h_X7_remember ((h_X7_refused M 0).2))) len stay).2)))
set_option maxHeartbeats 4000000 in
set_option maxRecDepth 100000 in
theorem c_X7_come (l : Launch) (G : GG) (b : Nat) (M : Mo) (len : Int32) (stay : Int32) (hRI : RI (mN M)) (hac : mC M = nI (ac M)) (hac14 : ac M ≤ 14) : Met l yX7_come wsX7_come ({ frames := 6, cells := 0, slots := 0, locals := 136 }) (PcH G [.ref b, .int len, .int stay] (Md G b M)) (QM (some (.int ((h_X7_come M len stay).1))) (Md G b ((h_X7_come M len stay).2)) (blk b (b + 8))) 0 0 (blk b (b + 8)) := by
  refine metH (cc := cX7_come) (maxL := 3) (ret := (some .int)) (by decide) rfl ?_
  intro p e s m below meth cd hx hb hr hml hown hts hlocks hP hO
  have hin7 : ∀ w ∈ u_ws RX7 TX7 12, w ∈ wsX7_come := by decide +kernel
  have hf_13 := hts (.fieldLink RX7 13 "CurbCarsModel" "now" "[I") (by decide +kernel)
  have hA : ∀ q, (blk b (b + 8)) q → (blk b (b + 8)) q := fun _ h => h
  have hS : va_S (blk b (b + 8)) s.heap s.heap [] := va_S.rf
  have hl := lv_entry ([.ref b, .int len, .int stay]) (n := 3) (Nat.le_of_ble_eq_true rfl)
  rw [lg_entry_eq]
  generalize (lg_sl ([.ref b, .int len, .int stay]) ++ List.replicate (3 - (lg_sl ([.ref b, .int len, .int stay])).length) Slot.unset).toArray = ls at hl ⊢
  have hl : lv_has ls 3 [(0, .ref b), (1, .int len), (2, .int stay)] := hl
  refine lv_aload_n hx hb dX7_come_0 rfl (lv_at hl 0 rfl) ?_
  refine lv_iload_n hx hb dX7_come_1 rfl (lv_at hl 1 rfl) ?_
  refine cl_pi (rS (As := [.int len]) (rest := [.ref b]) ⟨hx, hb, hml, hown, hts⟩ (c_X7_isLength l G len) (va_cwS 1 hts gX7_come_X7_isLength rfl rfl rfl (by decide +kernel) ⟨Nat.le_of_ble_eq_true rfl, Nat.le_of_ble_eq_true rfl⟩) trivial hO rfl hl.1 (Nat.le_of_ble_eq_true rfl) dX7_come_2 ⟨Nat.le_of_ble_eq_true rfl, Nat.le_of_ble_eq_true rfl⟩) ?_
  refine lv_if_eq (tgt := 20) hx hb dX7_come_5 (by decide) (fun c_1 => ?_) (fun c_1 => ?_)
  · refine lv_iconst (v := 1) hx hb dX7_come_20 (by decide) ?_
    refine lv_goto (tgt := 40) hx hb dX7_come_21 (by decide) ?_
    refine cl_mi (rV (As := [.int 1]) (rest := []) ⟨hx, hb, hml, hown, hts⟩ (c_X7_refused l G b M 1) (cwV 1 hts gX7_come_X7_refused rfl rfl rfl (by decide +kernel) ⟨Nat.le_of_ble_eq_true rfl, Nat.le_of_ble_eq_true rfl⟩) (md_recv hO hP) hP hO rfl hl.1 (Nat.le_of_ble_eq_true rfl) dX7_come_40 ⟨Nat.le_of_ble_eq_true rfl, Nat.le_of_ble_eq_true rfl⟩) hS hA (fun H locs hP1 hz hk hS => ?_)
    have hP : Md G b ((h_X7_refused M 1).2) H := hP1
    refine lv_if_eq (tgt := 48) hx hb dX7_come_43 (by decide) (fun c_2 => ?_) (fun c_2 => ?_)
    · exact absurd c_2 (ref_p1 _)
    · refine lv_iconst (v := 0) hx hb dX7_come_46 (by decide) ?_
      have hE : h_X7_come M len stay = (0, (h_X7_refused M 1).2) := (by rw [h_X7_come, if_pos c_1])
      have hE2 := snd_of hE
      exact W.iret hx hb hr (fun t ht hW => ⟨by rw [fst_of hE], by rw [ht, hE2]; exact hP, hS.F ht⟩) hS.2.2 dX7_come_47
  · refine lv_iload_n hx hb dX7_come_8 rfl (lv_at hl 2 rfl) ?_
    refine lv_i2l (v := stay.toInt64) hx hb dX7_come_9 rfl ?_
    refine lv_lconst (v := 1) hx hb dX7_come_10 (by decide) ?_
    refine lv_ldc2 (v := 99) hx hb hown (hts (.constantLong RX7 224 (99)) (by decide +kernel)) dX7_come_11 ?_
    refine cl_pi (rS (As := [.long stay.toInt64, .long 1, .long 99]) (rest := [.ref b]) ⟨hx, hb, hml, hown, hts⟩ (c_X7_in l G stay.toInt64 1 99) (va_cwS 3 hts gX7_come_X7_in rfl rfl rfl (by decide +kernel) ⟨Nat.le_of_ble_eq_true rfl, Nat.le_of_ble_eq_true rfl⟩) trivial hO rfl hl.1 (Nat.le_of_ble_eq_true rfl) dX7_come_14 ⟨Nat.le_of_ble_eq_true rfl, Nat.le_of_ble_eq_true rfl⟩) ?_
    refine lv_if_ne (tgt := 24) hx hb dX7_come_17 (by decide) (fun c_3 => ?_) (fun c_3 => ?_)
    · refine lv_aload_n hx hb dX7_come_24 rfl (lv_at hl 0 rfl) ?_
      refine va_get (D := G.1) (ci := 5) (v := .ref (b + 2)) (C := RX7) (T := TX7) (N := 12) hx hb hts hin7 hown hO.1 hP 0 rfl rfl 3 (by decide) hf_13 (fun _ h9 => h9) rfl dX7_come_25 ?_
      refine lv_iconst (v := 0) hx hb dX7_come_28 (by decide) ?_
      refine iald_n (k := 0) hx hb hO.1 hP 2 0 rfl rfl (by omega) (by decide) dX7_come_29 ?_
      refine lv_bipush (v := 40) hx hb dX7_come_30 (by decide) ?_
      refine lv_icmp_ge (tgt := 39) hx hb dX7_come_32 (by decide) (fun c_4 => ?_) (fun c_4 => ?_)
      · refine lv_iconst (v := 2) hx hb dX7_come_39 (by decide) ?_
        refine cl_mi (rV (As := [.int 2]) (rest := []) ⟨hx, hb, hml, hown, hts⟩ (c_X7_refused l G b M 2) (cwV 1 hts gX7_come_X7_refused rfl rfl rfl (by decide +kernel) ⟨Nat.le_of_ble_eq_true rfl, Nat.le_of_ble_eq_true rfl⟩) (md_recv hO hP) hP hO rfl hl.1 (Nat.le_of_ble_eq_true rfl) dX7_come_40 ⟨Nat.le_of_ble_eq_true rfl, Nat.le_of_ble_eq_true rfl⟩) hS hA (fun H locs hP1 hz hk hS => ?_)
        have hP : Md G b ((h_X7_refused M 2).2) H := hP1
        refine lv_if_eq (tgt := 48) hx hb dX7_come_43 (by decide) (fun c_5 => ?_) (fun c_5 => ?_)
        · exact absurd c_5 (ref_p2 _)
        · refine lv_iconst (v := 0) hx hb dX7_come_46 (by decide) ?_
          have hE : h_X7_come M len stay = (0, (h_X7_refused M 2).2) := (by rw [h_X7_come, if_neg c_1, if_neg c_3, if_pos c_4])
          have hE2 := snd_of hE
          exact W.iret hx hb hr (fun t ht hW => ⟨by rw [fst_of hE], by rw [ht, hE2]; exact hP, hS.F ht⟩) hS.2.2 dX7_come_47
      · refine lv_iconst (v := 0) hx hb dX7_come_35 (by decide) ?_
        refine lv_goto (tgt := 40) hx hb dX7_come_36 (by decide) ?_
        refine cl_mi (rV (As := [.int 0]) (rest := []) ⟨hx, hb, hml, hown, hts⟩ (c_X7_refused l G b M 0) (cwV 1 hts gX7_come_X7_refused rfl rfl rfl (by decide +kernel) ⟨Nat.le_of_ble_eq_true rfl, Nat.le_of_ble_eq_true rfl⟩) (md_recv hO hP) hP hO rfl hl.1 (Nat.le_of_ble_eq_true rfl) dX7_come_40 ⟨Nat.le_of_ble_eq_true rfl, Nat.le_of_ble_eq_true rfl⟩) hS hA (fun H locs hP1 hz hk hS => ?_)
        have hP : Md G b ((h_X7_refused M 0).2) H := hP1
        refine lv_if_eq (tgt := 48) hx hb dX7_come_43 (by decide) (fun c_6 => ?_) (fun c_6 => ?_)
        · refine lv_aload_n hx hb dX7_come_48 rfl (lv_at hl 0 rfl) ?_
          refine cl_mv (rV (As := []) (rest := []) ⟨hx, hb, hml, hown, hts⟩ (c_X7_remember l G b ((h_X7_refused M 0).2) (by rw [ref_C, ref_ac]; exact hac) (by rw [ref_ac]; exact hac14)) (cwV 0 hts gX7_come_X7_remember rfl rfl rfl (by decide +kernel) ⟨Nat.le_of_ble_eq_true rfl, Nat.le_of_ble_eq_true rfl⟩) (md_recv hO hP) hP hO rfl hl.1 (Nat.le_of_ble_eq_true rfl) dX7_come_49 ⟨Nat.le_of_ble_eq_true rfl, Nat.le_of_ble_eq_true rfl⟩) hS hA (fun H locs hP1 hz hk hS => ?_)
          have hP : Md G b (h_X7_remember ((h_X7_refused M 0).2)) H := hP1
          refine lv_aload_n hx hb dX7_come_52 rfl (lv_at hl 0 rfl) ?_
          refine va_get (D := G.1) (ci := 5) (v := .ref (b + 2)) (C := RX7) (T := TX7) (N := 12) hx hb hts hin7 hown hO.1 hP 0 rfl rfl 3 (by decide) hf_13 (fun _ h9 => h9) rfl dX7_come_53 ?_
          refine lv_iload_n hx hb dX7_come_56 rfl (lv_at hl 1 rfl) ?_
          refine lv_iload_n hx hb dX7_come_57 rfl (lv_at hl 2 rfl) ?_
          refine cl_mi (rS (As := [.ref (b + 2), .int len, .int stay]) (rest := []) ⟨hx, hb, hml, hown, hts⟩ (c_X7_comeOn l G (b + 2) (mN (h_X7_remember ((h_X7_refused M 0).2))) len stay (RI_rr hRI).m.1 (gm40 (RI_rr hRI) (by rw [rr_N]; assumption)) (len_n (by assumption)) (RI_rr hRI).2.1) (va_cwS 3 hts gX7_come_X7_comeOn rfl rfl rfl (by decide +kernel) ⟨Nat.le_of_ble_eq_true rfl, Nat.le_of_ble_eq_true rfl⟩) (va_P.sub hP [2] rfl) hO rfl hl.1 (Nat.le_of_ble_eq_true rfl) dX7_come_58 ⟨Nat.le_of_ble_eq_true rfl, Nat.le_of_ble_eq_true rfl⟩) hS (fun q h => hA q (by simp only [one, blk] at *; omega)) (fun H locs hP1 hz hk hS => ?_)
          have hP : Md G b (oN (h_X7_remember ((h_X7_refused M 0).2)) ((h_X7_comeOn (mN (h_X7_remember ((h_X7_refused M 0).2))) len stay).2)) H := md_pN (mo_row 2 hP rfl hP1 hk)
          have hE : h_X7_come M len stay = ((h_X7_comeOn (mN (h_X7_remember ((h_X7_refused M 0).2))) len stay).1, (oN (h_X7_remember ((h_X7_refused M 0).2)) ((h_X7_comeOn (mN (h_X7_remember ((h_X7_refused M 0).2))) len stay).2))) := (by rw [h_X7_come, if_neg c_1, if_neg c_3, if_neg c_4])
          have hE2 := snd_of hE
          exact W.iret hx hb hr (fun t ht hW => ⟨by rw [fst_of hE], by rw [ht, hE2]; exact hP, hS.F ht⟩) hS.2.2 dX7_come_61
        · exact absurd (ref_0 _) c_6
    · refine lv_iconst (v := 1) hx hb dX7_come_20 (by decide) ?_
      refine lv_goto (tgt := 40) hx hb dX7_come_21 (by decide) ?_
      refine cl_mi (rV (As := [.int 1]) (rest := []) ⟨hx, hb, hml, hown, hts⟩ (c_X7_refused l G b M 1) (cwV 1 hts gX7_come_X7_refused rfl rfl rfl (by decide +kernel) ⟨Nat.le_of_ble_eq_true rfl, Nat.le_of_ble_eq_true rfl⟩) (md_recv hO hP) hP hO rfl hl.1 (Nat.le_of_ble_eq_true rfl) dX7_come_40 ⟨Nat.le_of_ble_eq_true rfl, Nat.le_of_ble_eq_true rfl⟩) hS hA (fun H locs hP1 hz hk hS => ?_)
      have hP : Md G b ((h_X7_refused M 1).2) H := hP1
      refine lv_if_eq (tgt := 48) hx hb dX7_come_43 (by decide) (fun c_7 => ?_) (fun c_7 => ?_)
      · exact absurd c_7 (ref_p1 _)
      · refine lv_iconst (v := 0) hx hb dX7_come_46 (by decide) ?_
        have hE : h_X7_come M len stay = (0, (h_X7_refused M 1).2) := (by rw [h_X7_come, if_neg c_1, if_pos c_3])
        have hE2 := snd_of hE
        exact W.iret hx hb hr (fun t ht hW => ⟨by rw [fst_of hE], by rw [ht, hE2]; exact hP, hS.F ht⟩) hS.2.2 dX7_come_47
