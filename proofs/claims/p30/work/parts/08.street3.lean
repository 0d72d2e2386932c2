theorem N_lpGaps : ∀ (n k : Nat) (st : Int32) (S : St), sN (lp_findGaps n k st S) = sN S := by
  intro n
  induction n with
  | zero => intro k st S; rfl
  | succ n ih =>
    intro k st S
    rw [lp_findGaps]
    repeat' split
    all_goals first | rfl | (rw [ih]; rfl)
theorem N_gaps (S : St) : sN (h_X4_findGaps S) = sN S := by rw [h_X4_findGaps, N_lpGaps]
theorem N_lpOcc (x len mk : Int32) : ∀ (n k : Nat) (S : St), sN (lp_occupy x len mk n k S) = sN S := by
  intro n
  induction n with
  | zero => intro k S; rfl
  | succ n ih =>
    intro k S
    rw [lp_occupy]
    repeat' split
    all_goals first | rfl | (rw [N_gaps]; done) | (rw [ih]; rfl)
theorem N_occ (S : St) (x len mk : Int32) : sN (h_X4_occupy S x len mk) = sN S := by rw [h_X4_occupy, N_lpOcc]
theorem N_wH (S : St) (v : Int64) : sN (wH S v) = sN S := rfl
theorem N_wK (S : St) (v : Rw) : sN (wK S v) = sN S := rfl
theorem N_pK (S : St) (i v : Int32) : sN (pK S i v) = sN S := rfl
theorem N_wM (S : St) (v : Int32) : sN (wM S v) = sN S := rfl
theorem N_use (S : St) : sN (h_X4_useChance S) = sN S := by
  rw [h_X4_useChance]
  split
  · exact N_wH ..
  · rfl
theorem N_try (S : St) (c : Int32) : sN (h_X4_tryToPark S c).2 = sN S := by
  rw [h_X4_tryToPark]
  split
  · rfl
  · show sN (h_X4_occupy _ _ _ _) = _
    rw [N_occ, N_use]
theorem N_dep (S : St) (c sta : Int32) : sN (h_X4_depart S c sta).2 = sN S := by
  rw [h_X4_depart]
  split
  · rfl
  · show sN (h_X4_occupy _ _ _ _) = _
    rw [N_occ]
theorem N_go (S : St) (c : Int32) : sN (h_X4_goRoundOnce S c) = sN S := by
  rw [h_X4_goRoundOnce]
  split <;> rfl

def lp_leave  : Nat → Nat → St → St
  | 0, _, S2 => S2
  | n + 1, k, S2 => if (sN S2) ≤ (nI k) then S2 else
    if (f_X4_isParked S2 (nI k)) = 0 then lp_leave n (k + 1) S2 else
    if 0 < (f_X4_minutesLeft (pK S2 (nI k) ((f_X6_get 40 (sK S2) (nI k)) + 1)) (nI k)) then lp_leave n (k + 1) (pK S2 (nI k) ((f_X6_get 40 (sK S2) (nI k)) + 1)) else
    lp_leave n (k + 1) ((h_X4_depart (pK S2 (nI k) ((f_X6_get 40 (sK S2) (nI k)) + 1)) (nI k) 2).2)
def h_X4_letParkedCarsLeave (S : St) : St :=
  lp_leave ((sN S).toNatClampNeg + 1) 0 S
set_option maxHeartbeats 4000000 in
set_option maxRecDepth 100000 in
theorem c_X4_letParkedCarsLeave (l : Launch) (G : GG) (a : Nat) (S : St) : Met l yX4_letParkedCarsLeave wsX4_letParkedCarsLeave ({ frames := 3, cells := 0, slots := 0, locals := 69 }) (PcH G [.ref a] (Str G a S)) (QM none (Str G a (h_X4_letParkedCarsLeave S)) (blk a (a + 9))) 0 0 (blk a (a + 9)) := by
  refine metH (cc := cX4_letParkedCarsLeave) (maxL := 2) (ret := none) (by decide) rfl ?_
  intro p e s m below meth cd hx hb hr hml hown hts hlocks hP hO
  have hin4 : ∀ w ∈ u_ws RX4 TX4 14, w ∈ wsX4_letParkedCarsLeave := by decide +kernel
  have hf_30 := hts (.fieldLink RX4 30 "CurbCars$Street" "parkedMinutes" "[I") (by decide +kernel)
  have hf_48 := hts (.fieldLink RX4 48 "CurbCars$Street" "came" "I") (by decide +kernel)
  have hA : ∀ q, (blk a (a + 9)) q → (blk a (a + 9)) q := fun _ h => h
  have hS : va_S (blk a (a + 9)) s.heap s.heap [] := va_S.rf
  have hl := lv_entry ([.ref a]) (n := 2) (Nat.le_of_ble_eq_true rfl)
  rw [lg_entry_eq]
  generalize (lg_sl ([.ref a]) ++ List.replicate (2 - (lg_sl ([.ref a])).length) Slot.unset).toArray = ls at hl ⊢
  have hl : lv_has ls 2 [(0, .ref a)] := hl
  have loop2 : ∀ (n : Nat) (k : Nat) (S2 : St), k ≤ (sN S).toNatClampNeg → k + n = (sN S).toNatClampNeg + 1 → sN S2 = sN S → h_X4_letParkedCarsLeave S = lp_leave  n k S2 → ∀ (H : Heap) (locs : List Loc) (ls : Array Slot), Str G a S2 H → va_S (blk a (a + 9)) s.heap H locs → lv_has ls 2 [(0, .ref a), (1, .int (nI k))] → W p l e (headSpec wsX4_letParkedCarsLeave ({ frames := 3, cells := 0, slots := 0, locals := 69 } : Room)).room s m ([.ref a] : List Value).toArray below meth cd H locs 0 0 (MQ below (QM none (Str G a (h_X4_letParkedCarsLeave S)) (blk a (a + 9))) ([.ref a] : List Value).toArray s 0 0 (blk a (a + 9))) (F0 m 2 ls []) := by
    intro n
    induction n with
    | zero =>
      intro k S2 hk hn hN hR H locs ls hP hS hl
      exact absurd hn (by omega)
    | succ n ih =>
      intro k S2 hk hn hN hR H locs ls hP hS hl
      refine lv_iload_n hx hb dX4_letParkedCarsLeave_2 rfl (lv_at hl 1 rfl) ?_
      refine lv_aload_n hx hb dX4_letParkedCarsLeave_3 rfl (lv_at hl 0 rfl) ?_
      refine va_get (D := G.1) (ci := 2) (v := .int (sN S2)) (C := RX4) (T := TX4) (N := 14) hx hb hts hin4 hown hO.1 hP 0 rfl rfl 8 (by decide) hf_48 (fun _ h9 => h9) rfl dX4_letParkedCarsLeave_4 ?_
      refine lv_icmp_ge (tgt := 57) hx hb dX4_letParkedCarsLeave_7 (by decide) (fun c_1 => ?_) (fun c_1 => ?_)
      · have hE : h_X4_letParkedCarsLeave S = S2 := (hR.trans (by rw [lp_leave, if_pos c_1]))
        exact W.vret hx hb hr (fun t ht hW => ⟨rfl, by rw [ht, hE]; exact hP, hS.F ht⟩) hS.2.2 dX4_letParkedCarsLeave_57
      · have hlt : k < (sN S).toNatClampNeg := (by have h8 := clamp_lt (sN S); exact kV (by rw [← hN]; exact c_1) (by omega))
        refine lv_aload_n hx hb dX4_letParkedCarsLeave_10 rfl (lv_at hl 0 rfl) ?_
        refine lv_iload_n hx hb dX4_letParkedCarsLeave_11 rfl (lv_at hl 1 rfl) ?_
        refine cl_pi (rV (As := [.int (nI k)]) (rest := []) ⟨hx, hb, hml, hown, hts⟩ (c_X4_isParked l G a S2 (nI k)) (cwV 1 hts gX4_letParkedCarsLeave_X4_isParked rfl rfl rfl (by decide +kernel) ⟨Nat.le_of_ble_eq_true rfl, Nat.le_of_ble_eq_true rfl⟩) (st_recv hO hP) hP hO rfl hl.1 (Nat.le_of_ble_eq_true rfl) dX4_letParkedCarsLeave_12 ⟨Nat.le_of_ble_eq_true rfl, Nat.le_of_ble_eq_true rfl⟩) ?_
        refine lv_if_eq (tgt := 51) hx hb dX4_letParkedCarsLeave_15 (by decide) (fun c_2 => ?_) (fun c_2 => ?_)
        · refine lv_iinc (v := nI (k + 1)) (lv' := [(1, .int (nI (k + 1))), (0, .ref a)]) hx hb dX4_letParkedCarsLeave_51 hl (k := 1) rfl (nI_1 _) (by decide) rfl (fun ls hl => ?_)
          refine lv_goto (tgt := 2) hx hb dX4_letParkedCarsLeave_54 (by decide) ?_
          have hE_3 : h_X4_letParkedCarsLeave S = lp_leave n (k + 1) S2 := (hR.trans (by rw [lp_leave, if_neg c_1, if_pos c_2]))
          exact ih (k + 1) S2 (by omega) (by omega) (by first | with_reducible exact hN | (simp only [N_dep, N_try, N_go, N_pK]; with_reducible exact hN)) hE_3 _ _ _ hP hS (lv_sub hl [1, 0] rfl)
        · refine lv_aload_n hx hb dX4_letParkedCarsLeave_18 rfl (lv_at hl 0 rfl) ?_
          refine va_get (D := G.1) (ci := 2) (v := .ref (a + 7)) (C := RX4) (T := TX4) (N := 14) hx hb hts hin4 hown hO.1 hP 0 rfl rfl 6 (by decide) hf_30 (fun _ h9 => h9) rfl dX4_letParkedCarsLeave_19 ?_
          refine lv_iload_n hx hb dX4_letParkedCarsLeave_22 rfl (lv_at hl 1 rfl) ?_
          refine lv_aload_n hx hb dX4_letParkedCarsLeave_23 rfl (lv_at hl 0 rfl) ?_
          refine va_get (D := G.1) (ci := 2) (v := .ref (a + 7)) (C := RX4) (T := TX4) (N := 14) hx hb hts hin4 hown hO.1 hP 0 rfl rfl 6 (by decide) hf_30 (fun _ h9 => h9) rfl dX4_letParkedCarsLeave_24 ?_
          refine lv_iload_n hx hb dX4_letParkedCarsLeave_27 rfl (lv_at hl 1 rfl) ?_
          refine cl_pi (rSN (As := [.ref (a + 7), .int (nI k)]) (rest := [.int (nI k), .ref (a + 7)]) ⟨hx, hb, hml, hown, hts⟩ (c_X6_get l G (a + 7) 40 (sK S2) (nI k) (by decide)) ⟨va_cnB 2 hts gX4_letParkedCarsLeave_X6_get_n84 rfl rfl rfl (hO.2 _ (List.mem_of_getElem? (i := 29) rfl)) (hts (.initialized RX6) (by decide +kernel)) (by decide +kernel) ⟨Nat.le_of_ble_eq_true rfl, Nat.le_of_ble_eq_true rfl⟩, hts (.static yX6_get) (by decide +kernel), trivial⟩ (va_P.sub hP [7] rfl) hO rfl hl.1 (Nat.le_of_ble_eq_true rfl) dX4_letParkedCarsLeave_28 ⟨Nat.le_of_ble_eq_true rfl, Nat.le_of_ble_eq_true rfl⟩) ?_
          refine lv_iconst (v := 1) hx hb dX4_letParkedCarsLeave_31 (by decide) ?_
          refine lv_iadd hx hb dX4_letParkedCarsLeave_32 ?_
          refine cl_mv (rSN (As := [.ref (a + 7), .int (nI k), .int ((f_X6_get 40 (sK S2) (nI k)) + 1)]) (rest := []) ⟨hx, hb, hml, hown, hts⟩ (c_X6_put l G (a + 7) 40 (sK S2) (nI k) ((f_X6_get 40 (sK S2) (nI k)) + 1) (by decide)) ⟨va_cnB 3 hts gX4_letParkedCarsLeave_X6_put_n88 rfl rfl rfl (hO.2 _ (List.mem_of_getElem? (i := 30) rfl)) (hts (.initialized RX6) (by decide +kernel)) (by decide +kernel) ⟨Nat.le_of_ble_eq_true rfl, Nat.le_of_ble_eq_true rfl⟩, hts (.static yX6_put) (by decide +kernel), trivial⟩ (va_P.sub hP [7] rfl) hO rfl hl.1 (Nat.le_of_ble_eq_true rfl) dX4_letParkedCarsLeave_33 ⟨Nat.le_of_ble_eq_true rfl, Nat.le_of_ble_eq_true rfl⟩) hS (fun q h => hA q (by simp only [one, blk] at *; omega)) (fun H locs hP1 hz hk hS => ?_)
          have hP : Str G a (pK S2 (nI k) ((f_X6_get 40 (sK S2) (nI k)) + 1)) H := st_pK (st_row 7 hP rfl hP1 hk)
          refine lv_aload_n hx hb dX4_letParkedCarsLeave_36 rfl (lv_at hl 0 rfl) ?_
          refine lv_iload_n hx hb dX4_letParkedCarsLeave_37 rfl (lv_at hl 1 rfl) ?_
          refine cl_pi (rV (As := [.int (nI k)]) (rest := []) ⟨hx, hb, hml, hown, hts⟩ (c_X4_minutesLeft l G a (pK S2 (nI k) ((f_X6_get 40 (sK S2) (nI k)) + 1)) (nI k)) (cwV 1 hts gX4_letParkedCarsLeave_X4_minutesLeft rfl rfl rfl (by decide +kernel) ⟨Nat.le_of_ble_eq_true rfl, Nat.le_of_ble_eq_true rfl⟩) (st_recv hO hP) hP hO rfl hl.1 (Nat.le_of_ble_eq_true rfl) dX4_letParkedCarsLeave_38 ⟨Nat.le_of_ble_eq_true rfl, Nat.le_of_ble_eq_true rfl⟩) ?_
          refine lv_if_gt (tgt := 51) hx hb dX4_letParkedCarsLeave_41 (by decide) (fun c_4 => ?_) (fun c_4 => ?_)
          · refine lv_iinc (v := nI (k + 1)) (lv' := [(1, .int (nI (k + 1))), (0, .ref a)]) hx hb dX4_letParkedCarsLeave_51 hl (k := 1) rfl (nI_1 _) (by decide) rfl (fun ls hl => ?_)
            refine lv_goto (tgt := 2) hx hb dX4_letParkedCarsLeave_54 (by decide) ?_
            have hE_5 : h_X4_letParkedCarsLeave S = lp_leave n (k + 1) (pK S2 (nI k) ((f_X6_get 40 (sK S2) (nI k)) + 1)) := (hR.trans (by rw [lp_leave, if_neg c_1, if_neg c_2, if_pos c_4]))
            exact ih (k + 1) (pK S2 (nI k) ((f_X6_get 40 (sK S2) (nI k)) + 1)) (by omega) (by omega) (by first | with_reducible exact hN | (simp only [N_dep, N_try, N_go, N_pK]; with_reducible exact hN)) hE_5 _ _ _ hP hS (lv_sub hl [1, 0] rfl)
          · refine lv_aload_n hx hb dX4_letParkedCarsLeave_44 rfl (lv_at hl 0 rfl) ?_
            refine lv_iload_n hx hb dX4_letParkedCarsLeave_45 rfl (lv_at hl 1 rfl) ?_
            refine lv_iconst (v := 2) hx hb dX4_letParkedCarsLeave_46 (by decide) ?_
            refine cl_mi (rV (As := [.int (nI k), .int 2]) (rest := []) ⟨hx, hb, hml, hown, hts⟩ (c_X4_depart l G a (pK S2 (nI k) ((f_X6_get 40 (sK S2) (nI k)) + 1)) (nI k) 2) (cwV 2 hts gX4_letParkedCarsLeave_X4_depart rfl rfl rfl (by decide +kernel) ⟨Nat.le_of_ble_eq_true rfl, Nat.le_of_ble_eq_true rfl⟩) (st_recv hO hP) hP hO rfl hl.1 (Nat.le_of_ble_eq_true rfl) dX4_letParkedCarsLeave_47 ⟨Nat.le_of_ble_eq_true rfl, Nat.le_of_ble_eq_true rfl⟩) hS hA (fun H locs hP1 hz hk hS => ?_)
            have hP : Str G a ((h_X4_depart (pK S2 (nI k) ((f_X6_get 40 (sK S2) (nI k)) + 1)) (nI k) 2).2) H := hP1
            refine lv_pop hx hb dX4_letParkedCarsLeave_50 rfl ?_
            refine lv_iinc (v := nI (k + 1)) (lv' := [(1, .int (nI (k + 1))), (0, .ref a)]) hx hb dX4_letParkedCarsLeave_51 hl (k := 1) rfl (nI_1 _) (by decide) rfl (fun ls hl => ?_)
            refine lv_goto (tgt := 2) hx hb dX4_letParkedCarsLeave_54 (by decide) ?_
            have hE_6 : h_X4_letParkedCarsLeave S = lp_leave n (k + 1) ((h_X4_depart (pK S2 (nI k) ((f_X6_get 40 (sK S2) (nI k)) + 1)) (nI k) 2).2) := (hR.trans (by rw [lp_leave, if_neg c_1, if_neg c_2, if_neg c_4]))
            exact ih (k + 1) ((h_X4_depart (pK S2 (nI k) ((f_X6_get 40 (sK S2) (nI k)) + 1)) (nI k) 2).2) (by omega) (by omega) (by first | with_reducible exact hN | (simp only [N_dep, N_try, N_go, N_pK]; with_reducible exact hN)) hE_6 _ _ _ hP hS (lv_sub hl [1, 0] rfl)
  refine lv_iconst (v := 0) hx hb dX4_letParkedCarsLeave_0 (by decide) ?_
  refine lv_istore_n (lv' := [(1, .int 0), (0, .ref a)]) hx hb dX4_letParkedCarsLeave_1 rfl hl (by decide) rfl (fun ls hl => ?_)
  have hE_7 : h_X4_letParkedCarsLeave S = lp_leave ((sN S).toNatClampNeg + 1) 0 S := (by rw [h_X4_letParkedCarsLeave])
  exact loop2 ((sN S).toNatClampNeg + 1) 0 S (Nat.zero_le _) (by omega) rfl hE_7 _ _ _ hP hS (lv_sub hl [1, 0] rfl)

def lp_round  : Nat → Nat → Int32 → St → Int32 × St
  | 0, _, acc, S2 => (acc, S2)
  | n + 1, k, acc, S2 => if (sN S2) ≤ (nI k) then (acc, S2) else
    if (f_X6_get 40 (sT S2) (nI k)) = 1 then (if ((h_X4_tryToPark S2 (nI k)).1) = 0 then lp_round n (k + 1) acc (h_X4_goRoundOnce ((h_X4_tryToPark S2 (nI k)).2) (nI k)) else
      lp_round n (k + 1) (acc + 1) ((h_X4_tryToPark S2 (nI k)).2)) else
    lp_round n (k + 1) acc S2
def h_X4_letCarsGoRound (S : St) : Int32 × St :=
  lp_round ((sN S).toNatClampNeg + 1) 0 0 S
set_option maxHeartbeats 4000000 in
set_option maxRecDepth 100000 in
theorem c_X4_letCarsGoRound (l : Launch) (G : GG) (a : Nat) (S : St) : Met l yX4_letCarsGoRound wsX4_letCarsGoRound ({ frames := 3, cells := 0, slots := 0, locals := 71 }) (PcH G [.ref a] (Str G a S)) (QM (some (.int ((h_X4_letCarsGoRound S).1))) (Str G a ((h_X4_letCarsGoRound S).2)) (blk a (a + 9))) 0 0 (blk a (a + 9)) := by
  refine metH (cc := cX4_letCarsGoRound) (maxL := 3) (ret := (some .int)) (by decide) rfl ?_
  intro p e s m below meth cd hx hb hr hml hown hts hlocks hP hO
  have hin4 : ∀ w ∈ u_ws RX4 TX4 14, w ∈ wsX4_letCarsGoRound := by decide +kernel
  have hf_24 := hts (.fieldLink RX4 24 "CurbCars$Street" "states" "[I") (by decide +kernel)
  have hf_48 := hts (.fieldLink RX4 48 "CurbCars$Street" "came" "I") (by decide +kernel)
  have hA : ∀ q, (blk a (a + 9)) q → (blk a (a + 9)) q := fun _ h => h
  have hS : va_S (blk a (a + 9)) s.heap s.heap [] := va_S.rf
  have hl := lv_entry ([.ref a]) (n := 3) (Nat.le_of_ble_eq_true rfl)
  rw [lg_entry_eq]
  generalize (lg_sl ([.ref a]) ++ List.replicate (3 - (lg_sl ([.ref a])).length) Slot.unset).toArray = ls at hl ⊢
  have hl : lv_has ls 3 [(0, .ref a)] := hl
  have loop4 : ∀ (n : Nat) (k : Nat) (acc : Int32) (S2 : St), k ≤ (sN S).toNatClampNeg → k + n = (sN S).toNatClampNeg + 1 → sN S2 = sN S → h_X4_letCarsGoRound S = lp_round  n k acc S2 → ∀ (H : Heap) (locs : List Loc) (ls : Array Slot), Str G a S2 H → va_S (blk a (a + 9)) s.heap H locs → lv_has ls 3 [(0, .ref a), (1, .int acc), (2, .int (nI k))] → W p l e (headSpec wsX4_letCarsGoRound ({ frames := 3, cells := 0, slots := 0, locals := 71 } : Room)).room s m ([.ref a] : List Value).toArray below meth cd H locs 0 0 (MQ below (QM (some (.int ((h_X4_letCarsGoRound S).1))) (Str G a ((h_X4_letCarsGoRound S).2)) (blk a (a + 9))) ([.ref a] : List Value).toArray s 0 0 (blk a (a + 9))) (F0 m 4 ls []) := by
    intro n
    induction n with
    | zero =>
      intro k acc S2 hk hn hN hR H locs ls hP hS hl
      exact absurd hn (by omega)
    | succ n ih =>
      intro k acc S2 hk hn hN hR H locs ls hP hS hl
      refine lv_iload_n hx hb dX4_letCarsGoRound_4 rfl (lv_at hl 2 rfl) ?_
      refine lv_aload_n hx hb dX4_letCarsGoRound_5 rfl (lv_at hl 0 rfl) ?_
      refine va_get (D := G.1) (ci := 2) (v := .int (sN S2)) (C := RX4) (T := TX4) (N := 14) hx hb hts hin4 hown hO.1 hP 0 rfl rfl 8 (by decide) hf_48 (fun _ h9 => h9) rfl dX4_letCarsGoRound_6 ?_
      refine lv_icmp_ge (tgt := 49) hx hb dX4_letCarsGoRound_9 (by decide) (fun c_1 => ?_) (fun c_1 => ?_)
      · refine lv_iload_n hx hb dX4_letCarsGoRound_49 rfl (lv_at hl 1 rfl) ?_
        have hE : h_X4_letCarsGoRound S = (acc, S2) := (hR.trans (by rw [lp_round, if_pos c_1]))
        have hE2 := snd_of hE
        exact W.iret hx hb hr (fun t ht hW => ⟨by rw [fst_of hE], by rw [ht, hE2]; exact hP, hS.F ht⟩) hS.2.2 dX4_letCarsGoRound_50
      · have hlt : k < (sN S).toNatClampNeg := (by have h8 := clamp_lt (sN S); exact kV (by rw [← hN]; exact c_1) (by omega))
        refine lv_aload_n hx hb dX4_letCarsGoRound_12 rfl (lv_at hl 0 rfl) ?_
        refine va_get (D := G.1) (ci := 2) (v := .ref (a + 5)) (C := RX4) (T := TX4) (N := 14) hx hb hts hin4 hown hO.1 hP 0 rfl rfl 4 (by decide) hf_24 (fun _ h9 => h9) rfl dX4_letCarsGoRound_13 ?_
        refine lv_iload_n hx hb dX4_letCarsGoRound_16 rfl (lv_at hl 2 rfl) ?_
        refine cl_pi (rSN (As := [.ref (a + 5), .int (nI k)]) (rest := []) ⟨hx, hb, hml, hown, hts⟩ (c_X6_get l G (a + 5) 40 (sT S2) (nI k) (by decide)) ⟨va_cnB 2 hts gX4_letCarsGoRound_X6_get_n84 rfl rfl rfl (hO.2 _ (List.mem_of_getElem? (i := 29) rfl)) (hts (.initialized RX6) (by decide +kernel)) (by decide +kernel) ⟨Nat.le_of_ble_eq_true rfl, Nat.le_of_ble_eq_true rfl⟩, hts (.static yX6_get) (by decide +kernel), trivial⟩ (va_P.sub hP [5] rfl) hO rfl hl.1 (Nat.le_of_ble_eq_true rfl) dX4_letCarsGoRound_17 ⟨Nat.le_of_ble_eq_true rfl, Nat.le_of_ble_eq_true rfl⟩) ?_
        refine lv_iconst (v := 1) hx hb dX4_letCarsGoRound_20 (by decide) ?_
        refine lv_icmp_ne (tgt := 43) hx hb dX4_letCarsGoRound_21 (by decide) (fun c_2 => ?_) (fun c_2 => ?_)
        · refine lv_iinc (v := nI (k + 1)) (lv' := [(2, .int (nI (k + 1))), (0, .ref a), (1, .int acc)]) hx hb dX4_letCarsGoRound_43 hl (k := 2) rfl (nI_1 _) (by decide) rfl (fun ls hl => ?_)
          refine lv_goto (tgt := 4) hx hb dX4_letCarsGoRound_46 (by decide) ?_
          have hE_3 : h_X4_letCarsGoRound S = lp_round n (k + 1) acc S2 := (hR.trans (by rw [lp_round, if_neg c_1, if_neg c_2]))
          exact ih (k + 1) acc S2 (by omega) (by omega) (by first | with_reducible exact hN | (simp only [N_dep, N_try, N_go, N_pK]; with_reducible exact hN)) hE_3 _ _ _ hP hS (lv_sub hl [1, 2, 0] rfl)
        · refine lv_aload_n hx hb dX4_letCarsGoRound_24 rfl (lv_at hl 0 rfl) ?_
          refine lv_iload_n hx hb dX4_letCarsGoRound_25 rfl (lv_at hl 2 rfl) ?_
          refine cl_mi (rV (As := [.int (nI k)]) (rest := []) ⟨hx, hb, hml, hown, hts⟩ (c_X4_tryToPark l G a S2 (nI k)) (cwV 1 hts gX4_letCarsGoRound_X4_tryToPark rfl rfl rfl (by decide +kernel) ⟨Nat.le_of_ble_eq_true rfl, Nat.le_of_ble_eq_true rfl⟩) (st_recv hO hP) hP hO rfl hl.1 (Nat.le_of_ble_eq_true rfl) dX4_letCarsGoRound_26 ⟨Nat.le_of_ble_eq_true rfl, Nat.le_of_ble_eq_true rfl⟩) hS hA (fun H locs hP1 hz hk hS => ?_)
          have hP : Str G a ((h_X4_tryToPark S2 (nI k)).2) H := hP1
          refine lv_if_eq (tgt := 38) hx hb dX4_letCarsGoRound_29 (by decide) (fun c_4 => ?_) (fun c_4 => ?_)
          · refine lv_aload_n hx hb dX4_letCarsGoRound_38 rfl (lv_at hl 0 rfl) ?_
            refine lv_iload_n hx hb dX4_letCarsGoRound_39 rfl (lv_at hl 2 rfl) ?_
            refine cl_mv (rV (As := [.int (nI k)]) (rest := []) ⟨hx, hb, hml, hown, hts⟩ (c_X4_goRoundOnce l G a ((h_X4_tryToPark S2 (nI k)).2) (nI k)) (cwV 1 hts gX4_letCarsGoRound_X4_goRoundOnce rfl rfl rfl (by decide +kernel) ⟨Nat.le_of_ble_eq_true rfl, Nat.le_of_ble_eq_true rfl⟩) (st_recv hO hP) hP hO rfl hl.1 (Nat.le_of_ble_eq_true rfl) dX4_letCarsGoRound_40 ⟨Nat.le_of_ble_eq_true rfl, Nat.le_of_ble_eq_true rfl⟩) hS hA (fun H locs hP1 hz hk hS => ?_)
            have hP : Str G a (h_X4_goRoundOnce ((h_X4_tryToPark S2 (nI k)).2) (nI k)) H := hP1
            refine lv_iinc (v := nI (k + 1)) (lv' := [(2, .int (nI (k + 1))), (0, .ref a), (1, .int acc)]) hx hb dX4_letCarsGoRound_43 hl (k := 2) rfl (nI_1 _) (by decide) rfl (fun ls hl => ?_)
            refine lv_goto (tgt := 4) hx hb dX4_letCarsGoRound_46 (by decide) ?_
            have hE_5 : h_X4_letCarsGoRound S = lp_round n (k + 1) acc (h_X4_goRoundOnce ((h_X4_tryToPark S2 (nI k)).2) (nI k)) := (hR.trans (by rw [lp_round, if_neg c_1, if_pos c_2, if_pos c_4]))
            exact ih (k + 1) acc (h_X4_goRoundOnce ((h_X4_tryToPark S2 (nI k)).2) (nI k)) (by omega) (by omega) (by first | with_reducible exact hN | (simp only [N_dep, N_try, N_go, N_pK]; with_reducible exact hN)) hE_5 _ _ _ hP hS (lv_sub hl [1, 2, 0] rfl)
          · refine lv_iinc (v := acc + 1) (lv' := [(1, .int (acc + 1)), (0, .ref a), (2, .int (nI k))]) hx hb dX4_letCarsGoRound_32 hl (k := 1) rfl rfl (by decide) rfl (fun ls hl => ?_)
            refine lv_goto (tgt := 43) hx hb dX4_letCarsGoRound_35 (by decide) ?_
            refine lv_iinc (v := nI (k + 1)) (lv' := [(2, .int (nI (k + 1))), (1, .int (acc + 1)), (0, .ref a)]) hx hb dX4_letCarsGoRound_43 hl (k := 2) rfl (nI_1 _) (by decide) rfl (fun ls hl => ?_)
            refine lv_goto (tgt := 4) hx hb dX4_letCarsGoRound_46 (by decide) ?_
            have hE_6 : h_X4_letCarsGoRound S = lp_round n (k + 1) (acc + 1) ((h_X4_tryToPark S2 (nI k)).2) := (hR.trans (by rw [lp_round, if_neg c_1, if_pos c_2, if_neg c_4]))
            exact ih (k + 1) (acc + 1) ((h_X4_tryToPark S2 (nI k)).2) (by omega) (by omega) (by first | with_reducible exact hN | (simp only [N_dep, N_try, N_go, N_pK]; with_reducible exact hN)) hE_6 _ _ _ hP hS (lv_sub hl [2, 1, 0] rfl)
  refine lv_iconst (v := 0) hx hb dX4_letCarsGoRound_0 (by decide) ?_
  refine lv_istore_n (lv' := [(1, .int 0), (0, .ref a)]) hx hb dX4_letCarsGoRound_1 rfl hl (by decide) rfl (fun ls hl => ?_)
  refine lv_iconst (v := 0) hx hb dX4_letCarsGoRound_2 (by decide) ?_
  refine lv_istore_n (lv' := [(2, .int 0), (1, .int 0), (0, .ref a)]) hx hb dX4_letCarsGoRound_3 rfl hl (by decide) rfl (fun ls hl => ?_)
  have hE_7 : h_X4_letCarsGoRound S = lp_round ((sN S).toNatClampNeg + 1) 0 0 S := (by rw [h_X4_letCarsGoRound])
  exact loop4 ((sN S).toNatClampNeg + 1) 0 0 S (Nat.zero_le _) (by omega) rfl hE_7 _ _ _ hP hS (lv_sub hl [2, 1, 0] rfl)

def lp_pass (x : Int32) : Nat → Nat → Int32 → St → Int32 × St
  | 0, _, acc, S2 => (acc, S2)
  | n + 1, k, acc, S2 => if x ≤ (nI k) then (acc, S2) else
    lp_pass x n (k + 1) (acc + ((h_X4_letCarsGoRound (h_X4_letParkedCarsLeave (wM S2 ((sM S2) + 1)))).1)) ((h_X4_letCarsGoRound (h_X4_letParkedCarsLeave (wM S2 ((sM S2) + 1)))).2)
def h_X4_passMinutes (S : St) (x : Int32) : Int32 × St :=
  if (f_X6_isMinutes x) = 0 then ((-1), S) else
  lp_pass x (x.toNatClampNeg + 1) 0 0 S
set_option maxHeartbeats 4000000 in
set_option maxRecDepth 100000 in
theorem c_X4_passMinutes (l : Launch) (G : GG) (a : Nat) (S : St) (x : Int32) : Met l yX4_passMinutes wsX4_passMinutes ({ frames := 4, cells := 0, slots := 0, locals := 93 }) (PcH G [.ref a, .int x] (Str G a S)) (QM (some (.int ((h_X4_passMinutes S x).1))) (Str G a ((h_X4_passMinutes S x).2)) (blk a (a + 9))) 0 0 (blk a (a + 9)) := by
  refine metH (cc := cX4_passMinutes) (maxL := 4) (ret := (some .int)) (by decide) rfl ?_
  intro p e s m below meth cd hx hb hr hml hown hts hlocks hP hO
  have hin4 : ∀ w ∈ u_ws RX4 TX4 14, w ∈ wsX4_passMinutes := by decide +kernel
  have hf_52 := hts (.fieldLink RX4 52 "CurbCars$Street" "clock" "I") (by decide +kernel)
  have hA : ∀ q, (blk a (a + 9)) q → (blk a (a + 9)) q := fun _ h => h
  have hS : va_S (blk a (a + 9)) s.heap s.heap [] := va_S.rf
  have hl := lv_entry ([.ref a, .int x]) (n := 4) (Nat.le_of_ble_eq_true rfl)
  rw [lg_entry_eq]
  generalize (lg_sl ([.ref a, .int x]) ++ List.replicate (4 - (lg_sl ([.ref a, .int x])).length) Slot.unset).toArray = ls at hl ⊢
  have hl : lv_has ls 4 [(0, .ref a), (1, .int x)] := hl
  have loop13 : ∀ (n : Nat) (k : Nat) (acc : Int32) (S2 : St), k ≤ x.toNatClampNeg → k + n = x.toNatClampNeg + 1 → h_X4_passMinutes S x = lp_pass x n k acc S2 → ∀ (H : Heap) (locs : List Loc) (ls : Array Slot), Str G a S2 H → va_S (blk a (a + 9)) s.heap H locs → lv_has ls 4 [(0, .ref a), (1, .int x), (2, .int acc), (3, .int (nI k))] → W p l e (headSpec wsX4_passMinutes ({ frames := 4, cells := 0, slots := 0, locals := 93 } : Room)).room s m ([.ref a, .int x] : List Value).toArray below meth cd H locs 0 0 (MQ below (QM (some (.int ((h_X4_passMinutes S x).1))) (Str G a ((h_X4_passMinutes S x).2)) (blk a (a + 9))) ([.ref a, .int x] : List Value).toArray s 0 0 (blk a (a + 9))) (F0 m 13 ls []) := by
    intro n
    induction n with
    | zero =>
      intro k acc S2 hk hn hR H locs ls hP hS hl
      exact absurd hn (by omega)
    | succ n ih =>
      intro k acc S2 hk hn hR H locs ls hP hS hl
      refine lv_iload_n hx hb dX4_passMinutes_13 rfl (lv_at hl 3 rfl) ?_
      refine lv_iload_n hx hb dX4_passMinutes_14 rfl (lv_at hl 1 rfl) ?_
      refine lv_icmp_ge (tgt := 45) hx hb dX4_passMinutes_15 (by decide) (fun c_1 => ?_) (fun c_1 => ?_)
      · refine lv_iload_n hx hb dX4_passMinutes_45 rfl (lv_at hl 2 rfl) ?_
        have hE : h_X4_passMinutes S x = (acc, S2) := (hR.trans (by rw [lp_pass, if_pos c_1]))
        have hE2 := snd_of hE
        exact W.iret hx hb hr (fun t ht hW => ⟨by rw [fst_of hE], by rw [ht, hE2]; exact hP, hS.F ht⟩) hS.2.2 dX4_passMinutes_46
      · have hlt : k < x.toNatClampNeg := (by have h8 := clamp_lt x; exact kV c_1 (by omega))
        refine lv_aload_n hx hb dX4_passMinutes_18 rfl (lv_at hl 0 rfl) ?_
        refine lv_dup hx hb dX4_passMinutes_19 rfl ?_
        refine va_get (D := G.1) (ci := 2) (v := .int (sM S2)) (C := RX4) (T := TX4) (N := 14) hx hb hts hin4 hown hO.1 hP 0 rfl rfl 9 (by decide) hf_52 (fun _ h9 => h9) rfl dX4_passMinutes_20 ?_
        refine lv_iconst (v := 1) hx hb dX4_passMinutes_23 (by decide) ?_
        refine lv_iadd hx hb dX4_passMinutes_24 ?_
        refine va_put (D := G.1) (ci := 2) (v := .int ((sM S2) + 1)) (ty := .int) (C := RX4) (T := TX4) (N := 14) hx hb hts hin4 tyX4 tyX4_ok nmX4 hown hO.1 hP (st_D a S2 hA) hS 0 rfl rfl 9 (by decide) hf_52 (fun _ h9 => h9) rfl (by decide +kernel) rfl rfl (Nat.le_of_ble_eq_true rfl) dX4_passMinutes_25 (fun H locs hP hD hS => ?_)
        have hP : Str G a (wM S2 ((sM S2) + 1)) H := st_pM hP
        refine lv_aload_n hx hb dX4_passMinutes_28 rfl (lv_at hl 0 rfl) ?_
        refine cl_mv (rV (As := []) (rest := []) ⟨hx, hb, hml, hown, hts⟩ (c_X4_letParkedCarsLeave l G a (wM S2 ((sM S2) + 1))) (cwV 0 hts gX4_passMinutes_X4_letParkedCarsLeave rfl rfl rfl (by decide +kernel) ⟨Nat.le_of_ble_eq_true rfl, Nat.le_of_ble_eq_true rfl⟩) (st_recv hO hP) hP hO rfl hl.1 (Nat.le_of_ble_eq_true rfl) dX4_passMinutes_29 ⟨Nat.le_of_ble_eq_true rfl, Nat.le_of_ble_eq_true rfl⟩) hS hA (fun H locs hP1 hz hk hS => ?_)
        have hP : Str G a (h_X4_letParkedCarsLeave (wM S2 ((sM S2) + 1))) H := hP1
        refine lv_iload_n hx hb dX4_passMinutes_32 rfl (lv_at hl 2 rfl) ?_
        refine lv_aload_n hx hb dX4_passMinutes_33 rfl (lv_at hl 0 rfl) ?_
        refine cl_mi (rV (As := []) (rest := [.int acc]) ⟨hx, hb, hml, hown, hts⟩ (c_X4_letCarsGoRound l G a (h_X4_letParkedCarsLeave (wM S2 ((sM S2) + 1)))) (cwV 0 hts gX4_passMinutes_X4_letCarsGoRound rfl rfl rfl (by decide +kernel) ⟨Nat.le_of_ble_eq_true rfl, Nat.le_of_ble_eq_true rfl⟩) (st_recv hO hP) hP hO rfl hl.1 (Nat.le_of_ble_eq_true rfl) dX4_passMinutes_34 ⟨Nat.le_of_ble_eq_true rfl, Nat.le_of_ble_eq_true rfl⟩) hS hA (fun H locs hP1 hz hk hS => ?_)
        have hP : Str G a ((h_X4_letCarsGoRound (h_X4_letParkedCarsLeave (wM S2 ((sM S2) + 1)))).2) H := hP1
        refine lv_iadd hx hb dX4_passMinutes_37 ?_
        refine lv_istore_n (lv' := [(2, .int (acc + ((h_X4_letCarsGoRound (h_X4_letParkedCarsLeave (wM S2 ((sM S2) + 1)))).1))), (0, .ref a), (1, .int x), (3, .int (nI k))]) hx hb dX4_passMinutes_38 rfl hl (by decide) rfl (fun ls hl => ?_)
        refine lv_iinc (v := nI (k + 1)) (lv' := [(3, .int (nI (k + 1))), (2, .int (acc + ((h_X4_letCarsGoRound (h_X4_letParkedCarsLeave (wM S2 ((sM S2) + 1)))).1))), (0, .ref a), (1, .int x)]) hx hb dX4_passMinutes_39 hl (k := 3) rfl (nI_1 _) (by decide) rfl (fun ls hl => ?_)
        refine lv_goto (tgt := 13) hx hb dX4_passMinutes_42 (by decide) ?_
        have hE_2 : h_X4_passMinutes S x = lp_pass x n (k + 1) (acc + ((h_X4_letCarsGoRound (h_X4_letParkedCarsLeave (wM S2 ((sM S2) + 1)))).1)) ((h_X4_letCarsGoRound (h_X4_letParkedCarsLeave (wM S2 ((sM S2) + 1)))).2) := (hR.trans (by rw [lp_pass, if_neg c_1]))
        exact ih (k + 1) (acc + ((h_X4_letCarsGoRound (h_X4_letParkedCarsLeave (wM S2 ((sM S2) + 1)))).1)) ((h_X4_letCarsGoRound (h_X4_letParkedCarsLeave (wM S2 ((sM S2) + 1)))).2) (by omega) (by omega) hE_2 _ _ _ hP hS (lv_sub hl [2, 3, 1, 0] rfl)
  refine lv_iload_n hx hb dX4_passMinutes_0 rfl (lv_at hl 1 rfl) ?_
  refine cl_pi (rSN (As := [.int x]) (rest := []) ⟨hx, hb, hml, hown, hts⟩ (c_X6_isMinutes l G x) ⟨va_cnB 1 hts gX4_passMinutes_X6_isMinutes_n152 rfl rfl rfl (hO.2 _ (List.mem_of_getElem? (i := 40) rfl)) (hts (.initialized RX6) (by decide +kernel)) (by decide +kernel) ⟨Nat.le_of_ble_eq_true rfl, Nat.le_of_ble_eq_true rfl⟩, hts (.static yX6_isMinutes) (by decide +kernel), trivial⟩ trivial hO rfl hl.1 (Nat.le_of_ble_eq_true rfl) dX4_passMinutes_1 ⟨Nat.le_of_ble_eq_true rfl, Nat.le_of_ble_eq_true rfl⟩) ?_
  refine lv_if_ne (tgt := 9) hx hb dX4_passMinutes_4 (by decide) (fun c_3 => ?_) (fun c_3 => ?_)
  · refine lv_iconst (v := 0) hx hb dX4_passMinutes_9 (by decide) ?_
    refine lv_istore_n (lv' := [(2, .int 0), (0, .ref a), (1, .int x)]) hx hb dX4_passMinutes_10 rfl hl (by decide) rfl (fun ls hl => ?_)
    refine lv_iconst (v := 0) hx hb dX4_passMinutes_11 (by decide) ?_
    refine lv_istore_n (lv' := [(3, .int 0), (2, .int 0), (0, .ref a), (1, .int x)]) hx hb dX4_passMinutes_12 rfl hl (by decide) rfl (fun ls hl => ?_)
    have hE_4 : h_X4_passMinutes S x = lp_pass x (x.toNatClampNeg + 1) 0 0 S := (by rw [h_X4_passMinutes, if_neg c_3])
    exact loop13 (x.toNatClampNeg + 1) 0 0 S (Nat.zero_le _) (by omega) hE_4 _ _ _ hP hS (lv_sub hl [2, 3, 1, 0] rfl)
  · refine lv_iconst (v := -1) hx hb dX4_passMinutes_7 (by decide) ?_
    have hE : h_X4_passMinutes S x = ((-1), S) := (by rw [h_X4_passMinutes, if_pos c_3])
    have hE2 := snd_of hE
    exact W.iret hx hb hr (fun t ht hW => ⟨by rw [fst_of hE], by rw [ht, hE2]; exact hP, hS.F ht⟩) hS.2.2 dX4_passMinutes_8

def lp_fill (len : Int32) : Nat → Nat → Int32 → St → Int32 × St
  | 0, k, _, S2 => (nI k, S2)
  | n + 1, k, x, S2 => if x = (-1) then (nI k, S2) else
    if 80 ≤ (nI k) then (nI k, S2) else
    lp_fill len n (k + 1) (f_X4_chosenPlace (h_X4_occupy (h_X4_useChance S2) x len 100) len) (h_X4_occupy (h_X4_useChance S2) x len 100)
def h_X4_fillWith (S : St) (len : Int32) : Int32 × St :=
  lp_fill len (80 + 1) 0 (f_X4_chosenPlace S len) S
set_option maxHeartbeats 4000000 in
set_option maxRecDepth 100000 in
theorem c_X4_fillWith (l : Launch) (G : GG) (a : Nat) (S : St) (len : Int32) : Met l yX4_fillWith wsX4_fillWith ({ frames := 2, cells := 0, slots := 0, locals := 48 }) (PcH G [.ref a, .int len] (Str G a S)) (QM (some (.int ((h_X4_fillWith S len).1))) (Str G a ((h_X4_fillWith S len).2)) (blk a (a + 9))) 0 0 (blk a (a + 9)) := by
  refine metH (cc := cX4_fillWith) (maxL := 4) (ret := (some .int)) (by decide) rfl ?_
  intro p e s m below meth cd hx hb hr hml hown hts hlocks hP hO
  have hA : ∀ q, (blk a (a + 9)) q → (blk a (a + 9)) q := fun _ h => h
  have hS : va_S (blk a (a + 9)) s.heap s.heap [] := va_S.rf
  have hl := lv_entry ([.ref a, .int len]) (n := 4) (Nat.le_of_ble_eq_true rfl)
  rw [lg_entry_eq]
  generalize (lg_sl ([.ref a, .int len]) ++ List.replicate (4 - (lg_sl ([.ref a, .int len])).length) Slot.unset).toArray = ls at hl ⊢
  have hl : lv_has ls 4 [(0, .ref a), (1, .int len)] := hl
  have loop8 : ∀ (n : Nat) (k : Nat) (x : Int32) (S2 : St), k ≤ 80 → k + n = 80 + 1 → h_X4_fillWith S len = lp_fill len n k x S2 → ∀ (H : Heap) (locs : List Loc) (ls : Array Slot), Str G a S2 H → va_S (blk a (a + 9)) s.heap H locs → lv_has ls 4 [(0, .ref a), (1, .int len), (2, .int (nI k)), (3, .int x)] → W p l e (headSpec wsX4_fillWith ({ frames := 2, cells := 0, slots := 0, locals := 48 } : Room)).room s m ([.ref a, .int len] : List Value).toArray below meth cd H locs 0 0 (MQ below (QM (some (.int ((h_X4_fillWith S len).1))) (Str G a ((h_X4_fillWith S len).2)) (blk a (a + 9))) ([.ref a, .int len] : List Value).toArray s 0 0 (blk a (a + 9))) (F0 m 8 ls []) := by
    intro n
    induction n with
    | zero =>
      intro k x S2 hk hn hR H locs ls hP hS hl
      exact absurd hn (by omega)
    | succ n ih =>
      intro k x S2 hk hn hR H locs ls hP hS hl
      refine lv_iload_n hx hb dX4_fillWith_8 rfl (lv_at hl 3 rfl) ?_
      refine lv_iconst (v := -1) hx hb dX4_fillWith_9 (by decide) ?_
      refine lv_icmp_eq (tgt := 43) hx hb dX4_fillWith_10 (by decide) (fun c_1 => ?_) (fun c_1 => ?_)
      · refine lv_iload_n hx hb dX4_fillWith_43 rfl (lv_at hl 2 rfl) ?_
        have hE : h_X4_fillWith S len = (nI k, S2) := (hR.trans (by rw [lp_fill, if_pos c_1]))
        have hE2 := snd_of hE
        exact W.iret hx hb hr (fun t ht hW => ⟨by rw [fst_of hE], by rw [ht, hE2]; exact hP, hS.F ht⟩) hS.2.2 dX4_fillWith_44
      · refine lv_iload_n hx hb dX4_fillWith_13 rfl (lv_at hl 2 rfl) ?_
        refine lv_bipush (v := 80) hx hb dX4_fillWith_14 (by decide) ?_
        refine lv_icmp_ge (tgt := 43) hx hb dX4_fillWith_16 (by decide) (fun c_2 => ?_) (fun c_2 => ?_)
        · refine lv_iload_n hx hb dX4_fillWith_43 rfl (lv_at hl 2 rfl) ?_
          have hE : h_X4_fillWith S len = (nI k, S2) := (hR.trans (by rw [lp_fill, if_neg c_1, if_pos c_2]))
          have hE2 := snd_of hE
          exact W.iret hx hb hr (fun t ht hW => ⟨by rw [fst_of hE], by rw [ht, hE2]; exact hP, hS.F ht⟩) hS.2.2 dX4_fillWith_44
        · have hlt : k < 80 := kN (B := 80) c_2 (by omega) (by omega)
          refine lv_aload_n hx hb dX4_fillWith_19 rfl (lv_at hl 0 rfl) ?_
          refine cl_mv (rV (As := []) (rest := []) ⟨hx, hb, hml, hown, hts⟩ (c_X4_useChance l G a S2) (cwV 0 hts gX4_fillWith_X4_useChance rfl rfl rfl (by decide +kernel) ⟨Nat.le_of_ble_eq_true rfl, Nat.le_of_ble_eq_true rfl⟩) (st_recv hO hP) hP hO rfl hl.1 (Nat.le_of_ble_eq_true rfl) dX4_fillWith_20 ⟨Nat.le_of_ble_eq_true rfl, Nat.le_of_ble_eq_true rfl⟩) hS hA (fun H locs hP1 hz hk hS => ?_)
          have hP : Str G a (h_X4_useChance S2) H := hP1
          refine lv_aload_n hx hb dX4_fillWith_23 rfl (lv_at hl 0 rfl) ?_
          refine lv_iload_n hx hb dX4_fillWith_24 rfl (lv_at hl 3 rfl) ?_
          refine lv_iload_n hx hb dX4_fillWith_25 rfl (lv_at hl 1 rfl) ?_
          refine lv_bipush (v := 100) hx hb dX4_fillWith_26 (by decide) ?_
          refine cl_mv (rV (As := [.int x, .int len, .int 100]) (rest := []) ⟨hx, hb, hml, hown, hts⟩ (c_X4_occupy l G a (h_X4_useChance S2) x len 100) (cwV 3 hts gX4_fillWith_X4_occupy rfl rfl rfl (by decide +kernel) ⟨Nat.le_of_ble_eq_true rfl, Nat.le_of_ble_eq_true rfl⟩) (st_recv hO hP) hP hO rfl hl.1 (Nat.le_of_ble_eq_true rfl) dX4_fillWith_28 ⟨Nat.le_of_ble_eq_true rfl, Nat.le_of_ble_eq_true rfl⟩) hS hA (fun H locs hP1 hz hk hS => ?_)
          have hP : Str G a (h_X4_occupy (h_X4_useChance S2) x len 100) H := hP1
          refine lv_iinc (v := nI (k + 1)) (lv' := [(2, .int (nI (k + 1))), (0, .ref a), (1, .int len), (3, .int x)]) hx hb dX4_fillWith_31 hl (k := 2) rfl (nI_1 _) (by decide) rfl (fun ls hl => ?_)
          refine lv_aload_n hx hb dX4_fillWith_34 rfl (lv_at hl 1 rfl) ?_
          refine lv_iload_n hx hb dX4_fillWith_35 rfl (lv_at hl 2 rfl) ?_
          refine cl_pi (rV (As := [.int len]) (rest := []) ⟨hx, hb, hml, hown, hts⟩ (c_X4_chosenPlace l G a (h_X4_occupy (h_X4_useChance S2) x len 100) len) (cwV 1 hts gX4_fillWith_X4_chosenPlace rfl rfl rfl (by decide +kernel) ⟨Nat.le_of_ble_eq_true rfl, Nat.le_of_ble_eq_true rfl⟩) (st_recv hO hP) hP hO rfl hl.1 (Nat.le_of_ble_eq_true rfl) dX4_fillWith_36 ⟨Nat.le_of_ble_eq_true rfl, Nat.le_of_ble_eq_true rfl⟩) ?_
          refine lv_istore_n (lv' := [(3, .int (f_X4_chosenPlace (h_X4_occupy (h_X4_useChance S2) x len 100) len)), (2, .int (nI (k + 1))), (0, .ref a), (1, .int len)]) hx hb dX4_fillWith_39 rfl hl (by decide) rfl (fun ls hl => ?_)
          refine lv_goto (tgt := 8) hx hb dX4_fillWith_40 (by decide) ?_
          have hE_3 : h_X4_fillWith S len = lp_fill len n (k + 1) (f_X4_chosenPlace (h_X4_occupy (h_X4_useChance S2) x len 100) len) (h_X4_occupy (h_X4_useChance S2) x len 100) := (hR.trans (by rw [lp_fill, if_neg c_1, if_neg c_2]))
          exact ih (k + 1) (f_X4_chosenPlace (h_X4_occupy (h_X4_useChance S2) x len 100) len) (h_X4_occupy (h_X4_useChance S2) x len 100) (by omega) (by omega) hE_3 _ _ _ hP hS (lv_sub hl [2, 3, 1, 0] rfl)
  refine lv_iconst (v := 0) hx hb dX4_fillWith_0 (by decide) ?_
  refine lv_istore_n (lv' := [(2, .int 0), (0, .ref a), (1, .int len)]) hx hb dX4_fillWith_1 rfl hl (by decide) rfl (fun ls hl => ?_)
  refine lv_aload_n hx hb dX4_fillWith_2 rfl (lv_at hl 1 rfl) ?_
  refine lv_iload_n hx hb dX4_fillWith_3 rfl (lv_at hl 2 rfl) ?_
  refine cl_pi (rV (As := [.int len]) (rest := []) ⟨hx, hb, hml, hown, hts⟩ (c_X4_chosenPlace l G a S len) (cwV 1 hts gX4_fillWith_X4_chosenPlace rfl rfl rfl (by decide +kernel) ⟨Nat.le_of_ble_eq_true rfl, Nat.le_of_ble_eq_true rfl⟩) (st_recv hO hP) hP hO rfl hl.1 (Nat.le_of_ble_eq_true rfl) dX4_fillWith_4 ⟨Nat.le_of_ble_eq_true rfl, Nat.le_of_ble_eq_true rfl⟩) ?_
  refine lv_istore_n (lv' := [(3, .int (f_X4_chosenPlace S len)), (2, .int 0), (0, .ref a), (1, .int len)]) hx hb dX4_fillWith_7 rfl hl (by decide) rfl (fun ls hl => ?_)
  have hE_4 : h_X4_fillWith S len = lp_fill len (80 + 1) 0 (f_X4_chosenPlace S len) S := (by rw [h_X4_fillWith])
  exact loop8 (80 + 1) 0 (f_X4_chosenPlace S len) S (Nat.zero_le _) (by omega) hE_4 _ _ _ hP hS (lv_sub hl [2, 3, 1, 0] rfl)

def lp_mover (S : St) (len : Int32) : Nat → Nat → Int32
  | 0, _ => 0
  | n + 1, k => if (sN S) ≤ (nI k) then (-1) else
    if (f_X4_isParked S (nI k)) = 0 then lp_mover S len n (k + 1) else
    if ((f_X4_freeBelow S (nI k)) + (f_X4_freeAbove S (nI k))) < (len + (sO S)) then lp_mover S len n (k + 1) else
    nI k
def f_X4_carToShift (S : St) (len : Int32) : Int32 :=
  if (f_X4_reasonAgainst S len) = 0 then (-1) else
  lp_mover S len ((sN S).toNatClampNeg + 1) 0
set_option maxHeartbeats 4000000 in
set_option maxRecDepth 100000 in
theorem c_X4_carToShift (l : Launch) (G : GG) (a : Nat) (S : St) (len : Int32) : Met l yX4_carToShift wsX4_carToShift ({ frames := 3, cells := 0, slots := 0, locals := 65 }) (PcH G [.ref a, .int len] (Str G a S)) (QP (some (.int (f_X4_carToShift S len)))) 0 0 noA := by
  refine metH (cc := cX4_carToShift) (maxL := 3) (ret := (some .int)) (by decide) rfl ?_
  intro p e s m below meth cd hx hb hr hml hown hts hlocks hP hO
  have hin4 : ∀ w ∈ u_ws RX4 TX4 14, w ∈ wsX4_carToShift := by decide +kernel
  have hf_48 := hts (.fieldLink RX4 48 "CurbCars$Street" "came" "I") (by decide +kernel)
  have hf_62 := hts (.fieldLink RX4 62 "CurbCars$Street" "room" "I") (by decide +kernel)
  have hS : va_S noA s.heap s.heap [] := va_S.rf
  have hl := lv_entry ([.ref a, .int len]) (n := 3) (Nat.le_of_ble_eq_true rfl)
  rw [lg_entry_eq]
  generalize (lg_sl ([.ref a, .int len]) ++ List.replicate (3 - (lg_sl ([.ref a, .int len])).length) Slot.unset).toArray = ls at hl ⊢
  have hl : lv_has ls 3 [(0, .ref a), (1, .int len)] := hl
  have loop12 : ∀ (n : Nat) (k : Nat) , k ≤ (sN S).toNatClampNeg → k + n = (sN S).toNatClampNeg + 1 → f_X4_carToShift S len = lp_mover S len n k → ∀ (ls : Array Slot), lv_has ls 3 [(0, .ref a), (1, .int len), (2, .int (nI k))] → W p l e (headSpec wsX4_carToShift ({ frames := 3, cells := 0, slots := 0, locals := 65 } : Room)).room s m ([.ref a, .int len] : List Value).toArray below meth cd s.heap [] 0 0 (MQ below (QP (some (.int (f_X4_carToShift S len)))) ([.ref a, .int len] : List Value).toArray s 0 0 noA) (F0 m 12 ls []) := by
    intro n
    induction n with
    | zero =>
      intro k hk hn hR ls hl
      exact absurd hn (by omega)
    | succ n ih =>
      intro k hk hn hR ls hl
      refine lv_iload_n hx hb dX4_carToShift_12 rfl (lv_at hl 2 rfl) ?_
      refine lv_aload_n hx hb dX4_carToShift_13 rfl (lv_at hl 0 rfl) ?_
      refine va_get (D := G.1) (ci := 2) (v := .int (sN S)) (C := RX4) (T := TX4) (N := 14) hx hb hts hin4 hown hO.1 hP 0 rfl rfl 8 (by decide) hf_48 (fun _ h9 => h9) rfl dX4_carToShift_14 ?_
      refine lv_icmp_ge (tgt := 56) hx hb dX4_carToShift_17 (by decide) (fun c_1 => ?_) (fun c_1 => ?_)
      · refine lv_iconst (v := -1) hx hb dX4_carToShift_56 (by decide) ?_
        have hE : f_X4_carToShift S len = (-1) := (hR.trans (by rw [lp_mover, if_pos c_1]))
        exact W.iret hx hb hr (fun t ht hW => ⟨by rw [hE], ht⟩) hS.2.2 dX4_carToShift_57
      · have hlt : k < (sN S).toNatClampNeg := (by have h8 := clamp_lt (sN S); exact kV c_1 (by omega))
        refine lv_aload_n hx hb dX4_carToShift_20 rfl (lv_at hl 0 rfl) ?_
        refine lv_iload_n hx hb dX4_carToShift_21 rfl (lv_at hl 2 rfl) ?_
        refine cl_pi (rV (As := [.int (nI k)]) (rest := []) ⟨hx, hb, hml, hown, hts⟩ (c_X4_isParked l G a S (nI k)) (cwV 1 hts gX4_carToShift_X4_isParked rfl rfl rfl (by decide +kernel) ⟨Nat.le_of_ble_eq_true rfl, Nat.le_of_ble_eq_true rfl⟩) (st_recv hO hP) hP hO rfl hl.1 (Nat.le_of_ble_eq_true rfl) dX4_carToShift_22 ⟨Nat.le_of_ble_eq_true rfl, Nat.le_of_ble_eq_true rfl⟩) ?_
        refine lv_if_eq (tgt := 50) hx hb dX4_carToShift_25 (by decide) (fun c_2 => ?_) (fun c_2 => ?_)
        · refine lv_iinc (v := nI (k + 1)) (lv' := [(2, .int (nI (k + 1))), (0, .ref a), (1, .int len)]) hx hb dX4_carToShift_50 hl (k := 2) rfl (nI_1 _) (by decide) rfl (fun ls hl => ?_)
          refine lv_goto (tgt := 12) hx hb dX4_carToShift_53 (by decide) ?_
          have hE_3 : f_X4_carToShift S len = lp_mover S len n (k + 1) := (hR.trans (by rw [lp_mover, if_neg c_1, if_pos c_2]))
          exact ih (k + 1) (by omega) (by omega) hE_3 _ (lv_sub hl [1, 2, 0] rfl)
        · refine lv_aload_n hx hb dX4_carToShift_28 rfl (lv_at hl 0 rfl) ?_
          refine lv_iload_n hx hb dX4_carToShift_29 rfl (lv_at hl 2 rfl) ?_
          refine cl_pi (rV (As := [.int (nI k)]) (rest := []) ⟨hx, hb, hml, hown, hts⟩ (c_X4_freeBelow l G a S (nI k)) (cwV 1 hts gX4_carToShift_X4_freeBelow rfl rfl rfl (by decide +kernel) ⟨Nat.le_of_ble_eq_true rfl, Nat.le_of_ble_eq_true rfl⟩) (st_recv hO hP) hP hO rfl hl.1 (Nat.le_of_ble_eq_true rfl) dX4_carToShift_30 ⟨Nat.le_of_ble_eq_true rfl, Nat.le_of_ble_eq_true rfl⟩) ?_
          refine lv_aload_n hx hb dX4_carToShift_33 rfl (lv_at hl 0 rfl) ?_
          refine lv_iload_n hx hb dX4_carToShift_34 rfl (lv_at hl 2 rfl) ?_
          refine cl_pi (rV (As := [.int (nI k)]) (rest := [.int (f_X4_freeBelow S (nI k))]) ⟨hx, hb, hml, hown, hts⟩ (c_X4_freeAbove l G a S (nI k)) (cwV 1 hts gX4_carToShift_X4_freeAbove rfl rfl rfl (by decide +kernel) ⟨Nat.le_of_ble_eq_true rfl, Nat.le_of_ble_eq_true rfl⟩) (st_recv hO hP) hP hO rfl hl.1 (Nat.le_of_ble_eq_true rfl) dX4_carToShift_35 ⟨Nat.le_of_ble_eq_true rfl, Nat.le_of_ble_eq_true rfl⟩) ?_
          refine lv_iadd hx hb dX4_carToShift_38 ?_
          refine lv_iload_n hx hb dX4_carToShift_39 rfl (lv_at hl 1 rfl) ?_
          refine lv_aload_n hx hb dX4_carToShift_40 rfl (lv_at hl 0 rfl) ?_
          refine va_get (D := G.1) (ci := 2) (v := .int (sO S)) (C := RX4) (T := TX4) (N := 14) hx hb hts hin4 hown hO.1 hP 0 rfl rfl 12 (by decide) hf_62 (fun _ h9 => h9) rfl dX4_carToShift_41 ?_
          refine lv_iadd hx hb dX4_carToShift_44 ?_
          refine lv_icmp_lt (tgt := 50) hx hb dX4_carToShift_45 (by decide) (fun c_4 => ?_) (fun c_4 => ?_)
          · refine lv_iinc (v := nI (k + 1)) (lv' := [(2, .int (nI (k + 1))), (0, .ref a), (1, .int len)]) hx hb dX4_carToShift_50 hl (k := 2) rfl (nI_1 _) (by decide) rfl (fun ls hl => ?_)
            refine lv_goto (tgt := 12) hx hb dX4_carToShift_53 (by decide) ?_
            have hE_5 : f_X4_carToShift S len = lp_mover S len n (k + 1) := (hR.trans (by rw [lp_mover, if_neg c_1, if_neg c_2, if_pos c_4]))
            exact ih (k + 1) (by omega) (by omega) hE_5 _ (lv_sub hl [1, 2, 0] rfl)
          · refine lv_iload_n hx hb dX4_carToShift_48 rfl (lv_at hl 2 rfl) ?_
            have hE : f_X4_carToShift S len = nI k := (hR.trans (by rw [lp_mover, if_neg c_1, if_neg c_2, if_neg c_4]))
            exact W.iret hx hb hr (fun t ht hW => ⟨by rw [hE], ht⟩) hS.2.2 dX4_carToShift_49
  refine lv_aload_n hx hb dX4_carToShift_0 rfl (lv_at hl 0 rfl) ?_
  refine lv_iload_n hx hb dX4_carToShift_1 rfl (lv_at hl 1 rfl) ?_
  refine cl_pi (rV (As := [.int len]) (rest := []) ⟨hx, hb, hml, hown, hts⟩ (c_X4_reasonAgainst l G a S len) (cwV 1 hts gX4_carToShift_X4_reasonAgainst rfl rfl rfl (by decide +kernel) ⟨Nat.le_of_ble_eq_true rfl, Nat.le_of_ble_eq_true rfl⟩) (st_recv hO hP) hP hO rfl hl.1 (Nat.le_of_ble_eq_true rfl) dX4_carToShift_2 ⟨Nat.le_of_ble_eq_true rfl, Nat.le_of_ble_eq_true rfl⟩) ?_
  refine lv_if_ne (tgt := 10) hx hb dX4_carToShift_5 (by decide) (fun c_6 => ?_) (fun c_6 => ?_)
  · refine lv_iconst (v := 0) hx hb dX4_carToShift_10 (by decide) ?_
    refine lv_istore_n (lv' := [(2, .int 0), (0, .ref a), (1, .int len)]) hx hb dX4_carToShift_11 rfl hl (by decide) rfl (fun ls hl => ?_)
    have hE_7 : f_X4_carToShift S len = lp_mover S len ((sN S).toNatClampNeg + 1) 0 := (by rw [f_X4_carToShift, if_neg c_6])
    exact loop12 ((sN S).toNatClampNeg + 1) 0 (Nat.zero_le _) (by omega) hE_7 _ (lv_sub hl [1, 2, 0] rfl)
  · refine lv_iconst (v := -1) hx hb dX4_carToShift_8 (by decide) ?_
    have hE : f_X4_carToShift S len = (-1) := (by rw [f_X4_carToShift, if_pos c_6])
    exact W.iret hx hb hr (fun t ht hW => ⟨by rw [hE], ht⟩) hS.2.2 dX4_carToShift_9

def f_X4_placeToShiftTo (S : St) (c : Int32) (len : Int32) : Int32 :=
  if (f_X4_freeAbove S c) < (f_X4_freeBelow S c) then (f_X6_get 40 (sP S) c) + ((len + (sO S)) - (f_X4_freeBelow S c)) else
  (f_X6_get 40 (sP S) c) - ((len + (sO S)) - (f_X4_freeAbove S c))
set_option maxHeartbeats 4000000 in
set_option maxRecDepth 100000 in
theorem c_X4_placeToShiftTo (l : Launch) (G : GG) (a : Nat) (S : St) (c : Int32) (len : Int32) : Met l yX4_placeToShiftTo wsX4_placeToShiftTo ({ frames := 3, cells := 0, slots := 0, locals := 65 }) (PcH G [.ref a, .int c, .int len] (Str G a S)) (QP (some (.int (f_X4_placeToShiftTo S c len)))) 0 0 noA := by
  refine metH (cc := cX4_placeToShiftTo) (maxL := 6) (ret := (some .int)) (by decide) rfl ?_
  intro p e s m below meth cd hx hb hr hml hown hts hlocks hP hO
  have hin4 : ∀ w ∈ u_ws RX4 TX4 14, w ∈ wsX4_placeToShiftTo := by decide +kernel
  have hf_27 := hts (.fieldLink RX4 27 "CurbCars$Street" "places" "[I") (by decide +kernel)
  have hf_62 := hts (.fieldLink RX4 62 "CurbCars$Street" "room" "I") (by decide +kernel)
  have hS : va_S noA s.heap s.heap [] := va_S.rf
  have hl := lv_entry ([.ref a, .int c, .int len]) (n := 6) (Nat.le_of_ble_eq_true rfl)
  rw [lg_entry_eq]
  generalize (lg_sl ([.ref a, .int c, .int len]) ++ List.replicate (6 - (lg_sl ([.ref a, .int c, .int len])).length) Slot.unset).toArray = ls at hl ⊢
  have hl : lv_has ls 6 [(0, .ref a), (1, .int c), (2, .int len)] := hl
  refine lv_aload_n hx hb dX4_placeToShiftTo_0 rfl (lv_at hl 0 rfl) ?_
  refine lv_iload_n hx hb dX4_placeToShiftTo_1 rfl (lv_at hl 1 rfl) ?_
  refine cl_pi (rV (As := [.int c]) (rest := []) ⟨hx, hb, hml, hown, hts⟩ (c_X4_freeBelow l G a S c) (cwV 1 hts gX4_placeToShiftTo_X4_freeBelow rfl rfl rfl (by decide +kernel) ⟨Nat.le_of_ble_eq_true rfl, Nat.le_of_ble_eq_true rfl⟩) (st_recv hO hP) hP hO rfl hl.1 (Nat.le_of_ble_eq_true rfl) dX4_placeToShiftTo_2 ⟨Nat.le_of_ble_eq_true rfl, Nat.le_of_ble_eq_true rfl⟩) ?_
  refine lv_istore_n (lv' := [(3, .int (f_X4_freeBelow S c)), (0, .ref a), (1, .int c), (2, .int len)]) hx hb dX4_placeToShiftTo_5 rfl hl (by decide) rfl (fun ls hl => ?_)
  refine lv_aload_n hx hb dX4_placeToShiftTo_6 rfl (lv_at hl 1 rfl) ?_
  refine lv_iload_n hx hb dX4_placeToShiftTo_7 rfl (lv_at hl 2 rfl) ?_
  refine cl_pi (rV (As := [.int c]) (rest := []) ⟨hx, hb, hml, hown, hts⟩ (c_X4_freeAbove l G a S c) (cwV 1 hts gX4_placeToShiftTo_X4_freeAbove rfl rfl rfl (by decide +kernel) ⟨Nat.le_of_ble_eq_true rfl, Nat.le_of_ble_eq_true rfl⟩) (st_recv hO hP) hP hO rfl hl.1 (Nat.le_of_ble_eq_true rfl) dX4_placeToShiftTo_8 ⟨Nat.le_of_ble_eq_true rfl, Nat.le_of_ble_eq_true rfl⟩) ?_
  refine lv_istore (lv' := [(4, .int (f_X4_freeAbove S c)), (3, .int (f_X4_freeBelow S c)), (0, .ref a), (1, .int c), (2, .int len)]) hx hb dX4_placeToShiftTo_11 hl (by decide) rfl (fun ls hl => ?_)
  refine lv_aload_n hx hb dX4_placeToShiftTo_13 rfl (lv_at hl 2 rfl) ?_
  refine va_get (D := G.1) (ci := 2) (v := .ref (a + 6)) (C := RX4) (T := TX4) (N := 14) hx hb hts hin4 hown hO.1 hP 0 rfl rfl 5 (by decide) hf_27 (fun _ h9 => h9) rfl dX4_placeToShiftTo_14 ?_
  refine lv_iload_n hx hb dX4_placeToShiftTo_17 rfl (lv_at hl 3 rfl) ?_
  refine cl_pi (rSN (As := [.ref (a + 6), .int c]) (rest := []) ⟨hx, hb, hml, hown, hts⟩ (c_X6_get l G (a + 6) 40 (sP S) c (by decide)) ⟨va_cnB 2 hts gX4_placeToShiftTo_X6_get_n84 rfl rfl rfl (hO.2 _ (List.mem_of_getElem? (i := 29) rfl)) (hts (.initialized RX6) (by decide +kernel)) (by decide +kernel) ⟨Nat.le_of_ble_eq_true rfl, Nat.le_of_ble_eq_true rfl⟩, hts (.static yX6_get) (by decide +kernel), trivial⟩ (va_P.sub hP [6] rfl) hO rfl hl.1 (Nat.le_of_ble_eq_true rfl) dX4_placeToShiftTo_18 ⟨Nat.le_of_ble_eq_true rfl, Nat.le_of_ble_eq_true rfl⟩) ?_
  refine lv_istore (lv' := [(5, .int (f_X6_get 40 (sP S) c)), (4, .int (f_X4_freeAbove S c)), (3, .int (f_X4_freeBelow S c)), (0, .ref a), (1, .int c), (2, .int len)]) hx hb dX4_placeToShiftTo_21 hl (by decide) rfl (fun ls hl => ?_)
  refine lv_iload hx hb dX4_placeToShiftTo_23 (lv_at hl 1 rfl) ?_
  refine lv_iload_n hx hb dX4_placeToShiftTo_25 rfl (lv_at hl 2 rfl) ?_
  refine lv_icmp_lt (tgt := 44) hx hb dX4_placeToShiftTo_26 (by decide) (fun c_1 => ?_) (fun c_1 => ?_)
  · refine lv_iload hx hb dX4_placeToShiftTo_44 (lv_at hl 0 rfl) ?_
    refine lv_iload_n hx hb dX4_placeToShiftTo_46 rfl (lv_at hl 5 rfl) ?_
    refine lv_aload_n hx hb dX4_placeToShiftTo_47 rfl (lv_at hl 3 rfl) ?_
    refine va_get (D := G.1) (ci := 2) (v := .int (sO S)) (C := RX4) (T := TX4) (N := 14) hx hb hts hin4 hown hO.1 hP 0 rfl rfl 12 (by decide) hf_62 (fun _ h9 => h9) rfl dX4_placeToShiftTo_48 ?_
    refine lv_iadd hx hb dX4_placeToShiftTo_51 ?_
    refine lv_iload_n hx hb dX4_placeToShiftTo_52 rfl (lv_at hl 2 rfl) ?_
    refine lv_isub hx hb dX4_placeToShiftTo_53 ?_
    refine lv_iadd hx hb dX4_placeToShiftTo_54 ?_
    have hE : f_X4_placeToShiftTo S c len = (f_X6_get 40 (sP S) c) + ((len + (sO S)) - (f_X4_freeBelow S c)) := (by rw [f_X4_placeToShiftTo, if_pos c_1])
    exact W.iret hx hb hr (fun t ht hW => ⟨by rw [hE], ht⟩) hS.2.2 dX4_placeToShiftTo_55
  · refine lv_iload hx hb dX4_placeToShiftTo_29 (lv_at hl 0 rfl) ?_
    refine lv_iload_n hx hb dX4_placeToShiftTo_31 rfl (lv_at hl 5 rfl) ?_
    refine lv_aload_n hx hb dX4_placeToShiftTo_32 rfl (lv_at hl 3 rfl) ?_
    refine va_get (D := G.1) (ci := 2) (v := .int (sO S)) (C := RX4) (T := TX4) (N := 14) hx hb hts hin4 hown hO.1 hP 0 rfl rfl 12 (by decide) hf_62 (fun _ h9 => h9) rfl dX4_placeToShiftTo_33 ?_
    refine lv_iadd hx hb dX4_placeToShiftTo_36 ?_
    refine lv_iload hx hb dX4_placeToShiftTo_37 (lv_at hl 1 rfl) ?_
    refine lv_isub hx hb dX4_placeToShiftTo_39 ?_
    refine lv_isub hx hb dX4_placeToShiftTo_40 ?_
    refine lv_goto (tgt := 55) hx hb dX4_placeToShiftTo_41 (by decide) ?_
    have hE : f_X4_placeToShiftTo S c len = (f_X6_get 40 (sP S) c) - ((len + (sO S)) - (f_X4_freeAbove S c)) := (by rw [f_X4_placeToShiftTo, if_neg c_1])
    exact W.iret hx hb hr (fun t ht hW => ⟨by rw [hE], ht⟩) hS.2.2 dX4_placeToShiftTo_55
