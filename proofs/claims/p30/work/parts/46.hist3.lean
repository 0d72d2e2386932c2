def f_X0_isEmpty (D : Hi) : Int32 :=
  if 0 < (nI (qK D)) then 0 else
  1
set_option maxHeartbeats 4000000 in
set_option maxRecDepth 100000 in
theorem c_X0_isEmpty (l : Launch) (G : GG) (a : Nat) (D : Hi) : Met l yX0_isEmpty wsX0_isEmpty ({ frames := 0, cells := 0, slots := 0, locals := 0 }) (PcH G [.ref a] (va_P G.1 vwCl (hsW G a D))) (QP (some (.int (f_X0_isEmpty D)))) 0 0 noA := by
  refine metH (cc := cX0_isEmpty) (maxL := 1) (ret := (some .boolean)) (by decide) rfl ?_
  intro p e s m below meth cd hx hb hr hml hown hts hlocks hP hO
  have hin0 : ∀ w ∈ u_ws RX0 TX0 3, w ∈ wsX0_isEmpty := by decide +kernel
  have hf_18 := hts (.fieldLink RX0 18 "CurbCars$History" "count" "I") (by decide +kernel)
  have hS : va_S noA s.heap s.heap [] := va_S.rf
  have hl := lv_entry ([.ref a]) (n := 1) (Nat.le_of_ble_eq_true rfl)
  rw [lg_entry_eq]
  generalize (lg_sl ([.ref a]) ++ List.replicate (1 - (lg_sl ([.ref a])).length) Slot.unset).toArray = ls at hl ⊢
  have hl : lv_has ls 1 [(0, .ref a)] := hl
  refine lv_aload_n hx hb dX0_isEmpty_0 rfl (lv_at hl 0 rfl) ?_
  refine va_get (D := G.1) (ci := 0) (v := .int (nI (qK D))) (C := RX0) (T := TX0) (N := 3) hx hb hts hin0 hown hO.1 hP 0 rfl rfl 2 (by decide) hf_18 (fun _ h9 => h9) rfl dX0_isEmpty_1 ?_
  refine lv_if_gt (tgt := 11) hx hb dX0_isEmpty_4 (by decide) (fun c_1 => ?_) (fun c_1 => ?_)
  · refine lv_iconst (v := 0) hx hb dX0_isEmpty_11 (by decide) ?_
    have hE : f_X0_isEmpty D = 0 := (by rw [f_X0_isEmpty, if_pos c_1])
    exact W.zret (ty := .boolean) hx hb hr rfl (fun t ht hW => ⟨by rw [hE], ht⟩) hS.2.2 dX0_isEmpty_12
  · refine lv_iconst (v := 1) hx hb dX0_isEmpty_7 (by decide) ?_
    refine lv_goto (tgt := 12) hx hb dX0_isEmpty_8 (by decide) ?_
    have hE : f_X0_isEmpty D = 1 := (by rw [f_X0_isEmpty, if_neg c_1])
    exact W.zret (ty := .boolean) hx hb hr rfl (fun t ht hW => ⟨by rw [hE], ht⟩) hS.2.2 dX0_isEmpty_12

theorem b_f_X0_isEmpty (D : Hi) : f_X0_isEmpty D = 0 ∨ f_X0_isEmpty D = 1 := by
  unfold f_X0_isEmpty
  repeat' split
  all_goals first | exact Or.inl rfl | exact Or.inr rfl

def h_X0_forget (D : Hi) : Hi :=
  (uK D 0)
set_option maxHeartbeats 4000000 in
set_option maxRecDepth 100000 in
theorem c_X0_forget (l : Launch) (G : GG) (a : Nat) (D : Hi) : Met l yX0_forget wsX0_forget ({ frames := 0, cells := 0, slots := 0, locals := 0 }) (PcH G [.ref a] (va_P G.1 vwCl (hsW G a D))) (QM none (va_P G.1 vwCl (hsW G a (h_X0_forget D))) (blk a (a + 128))) 0 0 (blk a (a + 128)) := by
  refine metH (cc := cX0_forget) (maxL := 1) (ret := none) (by decide) rfl ?_
  intro p e s m below meth cd hx hb hr hml hown hts hlocks hP hO
  have hin0 : ∀ w ∈ u_ws RX0 TX0 3, w ∈ wsX0_forget := by decide +kernel
  have hf_18 := hts (.fieldLink RX0 18 "CurbCars$History" "count" "I") (by decide +kernel)
  have hA : ∀ q, (blk a (a + 128)) q → (blk a (a + 128)) q := fun _ h => h
  have hS : va_S (blk a (a + 128)) s.heap s.heap [] := va_S.rf
  have hl := lv_entry ([.ref a]) (n := 1) (Nat.le_of_ble_eq_true rfl)
  rw [lg_entry_eq]
  generalize (lg_sl ([.ref a]) ++ List.replicate (1 - (lg_sl ([.ref a])).length) Slot.unset).toArray = ls at hl ⊢
  have hl : lv_has ls 1 [(0, .ref a)] := hl
  refine lv_aload_n hx hb dX0_forget_0 rfl (lv_at hl 0 rfl) ?_
  refine lv_iconst (v := 0) hx hb dX0_forget_1 (by decide) ?_
  refine va_put (D := G.1) (ci := 0) (v := .int 0) (ty := .int) (C := RX0) (T := TX0) (N := 3) hx hb hts hin0 tyX0 tyX0_ok nmX0 hown hO.1 hP (Adr.D (hs_adr G a D) (fun q h1 h2 => hA q ⟨h1, by rw [hs_len] at h2; exact h2⟩)) hS 0 rfl rfl 2 (by decide) hf_18 (fun _ h9 => h9) rfl (by decide +kernel) rfl rfl (Nat.le_of_ble_eq_true rfl) dX0_forget_2 (fun H locs hP hD hS => ?_)
  have hP : va_P G.1 vwCl (hsW G a (uK D 0)) H := hs_pK hP
  have hE : h_X0_forget D = (uK D 0) := (by rw [h_X0_forget])
  exact W.vret hx hb hr (fun t ht hW => ⟨rfl, by rw [ht, hE]; exact hP, hS.F ht⟩) hS.2.2 dX0_forget_5

theorem emp_pos {D : Hi} (hK : qK D ≤ 14) (h : f_X0_isEmpty D = 0) : 1 ≤ qK D := by
  rw [f_X0_isEmpty] at h
  rcases Nat.eq_zero_or_pos (qK D) with z | z
  · rw [z] at h
    exact absurd h (by decide)
  · exact z
theorem nlt_14 {k : Nat} (h : ¬ nI k < 14) (hk : k ≤ 14) : k = 14 := by
  have : ¬ k < 14 := fun z => h ((nI_ltI (b := 14) (by omega) (by omega)).mpr z)
  omega

def h_X0_remember (S : HS) : HS :=
  if (nI (qK (hH S))) < 14 then (kH (kH S (uF (hH S) (((qO (hH S)) + (qK (hH S))) % 14) (hT S))) (uK (hH (kH S (uF (hH S) (((qO (hH S)) + (qK (hH S))) % 14) (hT S)))) ((qK (hH (kH S (uF (hH S) (((qO (hH S)) + (qK (hH S))) % 14) (hT S))))) + 1))) else
  (kH (kH (kH (kH S (uO (hH S) (((qO (hH S)) + 1) % 14))) (uK (hH (kH S (uO (hH S) (((qO (hH S)) + 1) % 14)))) ((qK (hH S)) - 1))) (uF (hH (kH (kH S (uO (hH S) (((qO (hH S)) + 1) % 14))) (uK (hH (kH S (uO (hH S) (((qO (hH S)) + 1) % 14)))) ((qK (hH S)) - 1)))) ((((qO (hH S) + 1) % 14) + (qK (hH S) - 1)) % 14) (hT (kH (kH S (uO (hH S) (((qO (hH S)) + 1) % 14))) (uK (hH (kH S (uO (hH S) (((qO (hH S)) + 1) % 14)))) ((qK (hH S)) - 1)))))) (uK (hH (kH (kH (kH S (uO (hH S) (((qO (hH S)) + 1) % 14))) (uK (hH (kH S (uO (hH S) (((qO (hH S)) + 1) % 14)))) ((qK (hH S)) - 1))) (uF (hH (kH (kH S (uO (hH S) (((qO (hH S)) + 1) % 14))) (uK (hH (kH S (uO (hH S) (((qO (hH S)) + 1) % 14)))) ((qK (hH S)) - 1)))) ((((qO (hH S) + 1) % 14) + (qK (hH S) - 1)) % 14) (hT (kH (kH S (uO (hH S) (((qO (hH S)) + 1) % 14))) (uK (hH (kH S (uO (hH S) (((qO (hH S)) + 1) % 14)))) ((qK (hH S)) - 1))))))) ((qK (hH (kH (kH (kH S (uO (hH S) (((qO (hH S)) + 1) % 14))) (uK (hH (kH S (uO (hH S) (((qO (hH S)) + 1) % 14)))) ((qK (hH S)) - 1))) (uF (hH (kH (kH S (uO (hH S) (((qO (hH S)) + 1) % 14))) (uK (hH (kH S (uO (hH S) (((qO (hH S)) + 1) % 14)))) ((qK (hH S)) - 1)))) ((((qO (hH S) + 1) % 14) + (qK (hH S) - 1)) % 14) (hT (kH (kH S (uO (hH S) (((qO (hH S)) + 1) % 14))) (uK (hH (kH S (uO (hH S) (((qO (hH S)) + 1) % 14)))) ((qK (hH S)) - 1)))))))) + 1)))
set_option maxHeartbeats 4000000 in
set_option maxRecDepth 100000 in
theorem c_X0_remember (l : Launch) (G : GG) (a b : Nat) (S : HS) (hd : b + 9 ≤ a ∨ a + 128 ≤ b) (hO14 : qO (hH S) < 14) (hK14 : qK (hH S) ≤ 14) : Met l yX0_remember wsX0_remember ({ frames := 3, cells := 0, slots := 0, locals := 60 }) (PcH G [.ref a, .ref b] (Hst2 G a b S)) (QM none (Hst2 G a b (h_X0_remember S)) (blkh a 128 b)) 0 0 (blkh a 128 b) := by
  refine metH (cc := cX0_remember) (maxL := 3) (ret := none) (by decide) rfl ?_
  intro p e s m below meth cd hx hb hr hml hown hts hlocks hP hO
  have hin0 : ∀ w ∈ u_ws RX0 TX0 3, w ∈ wsX0_remember := by decide +kernel
  have hf_11 := hts (.fieldLink RX0 11 "CurbCars$History" "kept" "[LCurbCars$Street;") (by decide +kernel)
  have hf_18 := hts (.fieldLink RX0 18 "CurbCars$History" "count" "I") (by decide +kernel)
  have hf_22 := hts (.fieldLink RX0 22 "CurbCars$History" "oldest" "I") (by decide +kernel)
  have hA : ∀ q, (blkh a 128 b) q → (blkh a 128 b) q := fun _ h => h
  have hS : va_S (blkh a 128 b) s.heap s.heap [] := va_S.rf
  have hl := lv_entry ([.ref a, .ref b]) (n := 3) (Nat.le_of_ble_eq_true rfl)
  rw [lg_entry_eq]
  generalize (lg_sl ([.ref a, .ref b]) ++ List.replicate (3 - (lg_sl ([.ref a, .ref b])).length) Slot.unset).toArray = ls at hl ⊢
  have hl : lv_has ls 3 [(0, .ref a), (1, .ref b)] := hl
  refine lv_aload_n hx hb dX0_remember_0 rfl (lv_at hl 0 rfl) ?_
  refine va_get (D := G.1) (ci := 0) (v := .int (nI (qK (hH S)))) (C := RX0) (T := TX0) (N := 3) hx hb hts hin0 hown hO.1 hP 0 rfl rfl 2 (by decide) hf_18 (fun _ h9 => h9) rfl dX0_remember_1 ?_
  refine lv_bipush (v := 14) hx hb dX0_remember_4 (by decide) ?_
  refine lv_icmp_lt (tgt := 32) hx hb dX0_remember_6 (by decide) (fun c_1 => ?_) (fun c_1 => ?_)
  · refine lv_aload_n hx hb dX0_remember_32 rfl (lv_at hl 0 rfl) ?_
    refine va_get (D := G.1) (ci := 0) (v := .ref (a + 1)) (C := RX0) (T := TX0) (N := 3) hx hb hts hin0 hown hO.1 hP 0 rfl rfl 0 (by decide) hf_11 (fun _ h9 => h9) rfl dX0_remember_33 ?_
    refine lv_aload_n hx hb dX0_remember_36 rfl (lv_at hl 0 rfl) ?_
    refine va_get (D := G.1) (ci := 0) (v := .int (nI (qO (hH S)))) (C := RX0) (T := TX0) (N := 3) hx hb hts hin0 hown hO.1 hP 0 rfl rfl 1 (by decide) hf_22 (fun _ h9 => h9) rfl dX0_remember_37 ?_
    refine lv_aload_n hx hb dX0_remember_40 rfl (lv_at hl 0 rfl) ?_
    refine va_get (D := G.1) (ci := 0) (v := .int (nI (qK (hH S)))) (C := RX0) (T := TX0) (N := 3) hx hb hts hin0 hown hO.1 hP 0 rfl rfl 2 (by decide) hf_18 (fun _ h9 => h9) rfl dX0_remember_41 ?_
    refine iadd_n (a := qO (hH S)) (b := qK (hH S)) hx hb dX0_remember_44 ?_
    refine lv_bipush (v := 14) hx hb dX0_remember_45 (by decide) ?_
    refine irem_n (a := (qO (hH S)) + (qK (hH S))) (b := 14) hx hb ⟨by omega, by omega, by omega⟩ dX0_remember_47 ?_
    refine cl_pr (rSN (As := [.ref (a + 1), .int (nI (((qO (hH S)) + (qK (hH S))) % 14))]) (rest := []) ⟨hx, hb, hml, hown, hts⟩ (c_X6_streetOf l G (a + 1) (a + 2) 14 (((qO (hH S)) + (qK (hH S))) % 14) (Nat.mod_lt _ (by omega)) (by decide)) ⟨va_cnB 2 hts gX0_remember_X6_streetOf_n25 rfl rfl rfl (hO.2 _ (List.mem_of_getElem? (i := 54) rfl)) (hts (.initialized RX6) (by decide +kernel)) (by decide +kernel) ⟨Nat.le_of_ble_eq_true rfl, Nat.le_of_ble_eq_true rfl⟩, hts (.static yX6_streetOf) (by decide +kernel), trivial⟩ (va_P.sub hP [1] rfl) hO rfl hl.1 (Nat.le_of_ble_eq_true rfl) dX0_remember_48 ⟨Nat.le_of_ble_eq_true rfl, Nat.le_of_ble_eq_true rfl⟩) ?_
    refine lv_astore_n (lv' := [(2, .ref (a + 2 + 9 * (((qO (hH S)) + (qK (hH S))) % 14))), (0, .ref a), (1, .ref b)]) hx hb dX0_remember_51 rfl hl (by decide) rfl (fun ls hl => ?_)
    refine lv_aload_n hx hb dX0_remember_52 rfl (lv_at hl 0 rfl) ?_
    refine lv_ifnull hx hb dX0_remember_53 ?_
    refine lv_aload_n hx hb dX0_remember_56 rfl (lv_at hl 0 rfl) ?_
    refine lv_aload_n hx hb dX0_remember_57 rfl (lv_at hl 2 rfl) ?_
    refine cl_mv (rVN (As := [.ref b]) (rest := []) ⟨hx, hb, hml, hown, hts⟩ (c_X4_copyFrom l G (a + 2 + 9 * (((qO (hH S)) + (qK (hH S))) % 14)) b (qF (hH S) (((qO (hH S)) + (qK (hH S))) % 14)) (hT S) (by omega)) ⟨va_cnB 1 hts gX0_remember_X4_copyFrom_n29 rfl rfl rfl (hO.2 _ (List.mem_of_getElem? (i := 55) rfl)) (hts (.initialized RX4) (by decide +kernel)) (by decide +kernel) ⟨Nat.le_of_ble_eq_true rfl, Nat.le_of_ble_eq_true rfl⟩, hts (.instanceMethod yX4_copyFrom) (by decide +kernel), hts (.selects RX4 yX4_copyFrom yX4_copyFrom) (by decide +kernel)⟩ (st_recv hO (P_app.mp (hs2_row (show (((qO (hH S)) + (qK (hH S))) % 14) < 14 from Nat.mod_lt _ (by omega)) hP)).1) (hs2_row (show (((qO (hH S)) + (qK (hH S))) % 14) < 14 from Nat.mod_lt _ (by omega)) hP) hO rfl hl.1 (Nat.le_of_ble_eq_true rfl) dX0_remember_58 ⟨Nat.le_of_ble_eq_true rfl, Nat.le_of_ble_eq_true rfl⟩) hS (fun q h => hA q (by simp only [blkh, blk2, blk] at *; omega)) (fun H locs hP1 hz hk hS => ?_)
    have hP : Hst2 G a b (kH S (uF (hH S) (((qO (hH S)) + (qK (hH S))) % 14) (hT S))) H := hs2_put (show (((qO (hH S)) + (qK (hH S))) % 14) < 14 from Nat.mod_lt _ (by omega)) hd hP hP1 hk
    refine lv_aload_n hx hb dX0_remember_61 rfl (lv_at hl 1 rfl) ?_
    refine lv_dup hx hb dX0_remember_62 rfl ?_
    refine va_get (D := G.1) (ci := 0) (v := .int (nI (qK (hH (kH S (uF (hH S) (((qO (hH S)) + (qK (hH S))) % 14) (hT S))))))) (C := RX0) (T := TX0) (N := 3) hx hb hts hin0 hown hO.1 hP 0 rfl rfl 2 (by decide) hf_18 (fun _ h9 => h9) rfl dX0_remember_63 ?_
    refine lv_iconst (v := 1) hx hb dX0_remember_66 (by decide) ?_
    refine iadd_n (a := qK (hH (kH S (uF (hH S) (((qO (hH S)) + (qK (hH S))) % 14) (hT S))))) (b := 1) hx hb dX0_remember_67 ?_
    refine va_put (D := G.1) (ci := 0) (v := .int (nI ((qK (hH (kH S (uF (hH S) (((qO (hH S)) + (qK (hH S))) % 14) (hT S))))) + 1))) (ty := .int) (C := RX0) (T := TX0) (N := 3) hx hb hts hin0 tyX0 tyX0_ok nmX0 hown hO.1 hP (two_D2 hd (hs_adr G a _) (hs_len G a _) hA) hS 0 rfl rfl 2 (by decide) hf_18 (fun _ h9 => h9) rfl (by decide +kernel) rfl rfl (Nat.le_of_ble_eq_true rfl) dX0_remember_68 (fun H locs hP hD hS => ?_)
    have hP : Hst2 G a b (kH (kH S (uF (hH S) (((qO (hH S)) + (qK (hH S))) % 14) (hT S))) (uK (hH (kH S (uF (hH S) (((qO (hH S)) + (qK (hH S))) % 14) (hT S)))) ((qK (hH (kH S (uF (hH S) (((qO (hH S)) + (qK (hH S))) % 14) (hT S))))) + 1))) H := hs2_pK hP
    have hE : h_X0_remember S = (kH (kH S (uF (hH S) (((qO (hH S)) + (qK (hH S))) % 14) (hT S))) (uK (hH (kH S (uF (hH S) (((qO (hH S)) + (qK (hH S))) % 14) (hT S)))) ((qK (hH (kH S (uF (hH S) (((qO (hH S)) + (qK (hH S))) % 14) (hT S))))) + 1))) := (by rw [h_X0_remember, if_pos c_1])
    exact W.vret hx hb hr (fun t ht hW => ⟨rfl, by rw [ht, hE]; exact hP, hS.F ht⟩) hS.2.2 dX0_remember_71
  · refine lv_aload_n hx hb dX0_remember_9 rfl (lv_at hl 0 rfl) ?_
    refine lv_aload_n hx hb dX0_remember_10 rfl (lv_at hl 0 rfl) ?_
    refine va_get (D := G.1) (ci := 0) (v := .int (nI (qO (hH S)))) (C := RX0) (T := TX0) (N := 3) hx hb hts hin0 hown hO.1 hP 0 rfl rfl 1 (by decide) hf_22 (fun _ h9 => h9) rfl dX0_remember_11 ?_
    refine lv_iconst (v := 1) hx hb dX0_remember_14 (by decide) ?_
    refine iadd_n (a := qO (hH S)) (b := 1) hx hb dX0_remember_15 ?_
    refine lv_bipush (v := 14) hx hb dX0_remember_16 (by decide) ?_
    refine irem_n (a := (qO (hH S)) + 1) (b := 14) hx hb ⟨by omega, by omega, by omega⟩ dX0_remember_18 ?_
    refine va_put (D := G.1) (ci := 0) (v := .int (nI (((qO (hH S)) + 1) % 14))) (ty := .int) (C := RX0) (T := TX0) (N := 3) hx hb hts hin0 tyX0 tyX0_ok nmX0 hown hO.1 hP (two_D2 hd (hs_adr G a _) (hs_len G a _) hA) hS 0 rfl rfl 1 (by decide) hf_22 (fun _ h9 => h9) rfl (by decide +kernel) rfl rfl (Nat.le_of_ble_eq_true rfl) dX0_remember_19 (fun H locs hP hD hS => ?_)
    have hP : Hst2 G a b (kH S (uO (hH S) (((qO (hH S)) + 1) % 14))) H := hs2_pO hP
    refine lv_aload_n hx hb dX0_remember_22 rfl (lv_at hl 0 rfl) ?_
    refine lv_dup hx hb dX0_remember_23 rfl ?_
    refine va_get (D := G.1) (ci := 0) (v := .int (nI (qK (hH (kH S (uO (hH S) (((qO (hH S)) + 1) % 14))))))) (C := RX0) (T := TX0) (N := 3) hx hb hts hin0 hown hO.1 hP 0 rfl rfl 2 (by decide) hf_18 (fun _ h9 => h9) rfl dX0_remember_24 ?_
    rw [(show nI (qK (hH (kH S (uO (hH S) (((qO (hH S)) + 1) % 14))))) = nI (qK (hH S)) from rfl)]
    refine lv_iconst (v := 1) hx hb dX0_remember_27 (by decide) ?_
    refine isub_n (a := qK (hH S)) (b := 1) hx hb (by have h9 := nlt_14 (by assumption) hK14; omega) dX0_remember_28 ?_
    refine va_put (D := G.1) (ci := 0) (v := .int (nI ((qK (hH S)) - 1))) (ty := .int) (C := RX0) (T := TX0) (N := 3) hx hb hts hin0 tyX0 tyX0_ok nmX0 hown hO.1 hP (two_D2 hd (hs_adr G a _) (hs_len G a _) hA) hS 0 rfl rfl 2 (by decide) hf_18 (fun _ h9 => h9) rfl (by decide +kernel) rfl rfl (Nat.le_of_ble_eq_true rfl) dX0_remember_29 (fun H locs hP hD hS => ?_)
    have hP : Hst2 G a b (kH (kH S (uO (hH S) (((qO (hH S)) + 1) % 14))) (uK (hH (kH S (uO (hH S) (((qO (hH S)) + 1) % 14)))) ((qK (hH S)) - 1))) H := hs2_pK hP
    refine lv_aload_n hx hb dX0_remember_32 rfl (lv_at hl 0 rfl) ?_
    refine va_get (D := G.1) (ci := 0) (v := .ref (a + 1)) (C := RX0) (T := TX0) (N := 3) hx hb hts hin0 hown hO.1 hP 0 rfl rfl 0 (by decide) hf_11 (fun _ h9 => h9) rfl dX0_remember_33 ?_
    refine lv_aload_n hx hb dX0_remember_36 rfl (lv_at hl 0 rfl) ?_
    refine va_get (D := G.1) (ci := 0) (v := .int (nI (qO (hH (kH (kH S (uO (hH S) (((qO (hH S)) + 1) % 14))) (uK (hH (kH S (uO (hH S) (((qO (hH S)) + 1) % 14)))) ((qK (hH S)) - 1))))))) (C := RX0) (T := TX0) (N := 3) hx hb hts hin0 hown hO.1 hP 0 rfl rfl 1 (by decide) hf_22 (fun _ h9 => h9) rfl dX0_remember_37 ?_
    rw [(show nI (qO (hH (kH (kH S (uO (hH S) (((qO (hH S)) + 1) % 14))) (uK (hH (kH S (uO (hH S) (((qO (hH S)) + 1) % 14)))) ((qK (hH S)) - 1))))) = nI ((qO (hH S) + 1) % 14) from rfl)]
    refine lv_aload_n hx hb dX0_remember_40 rfl (lv_at hl 0 rfl) ?_
    refine va_get (D := G.1) (ci := 0) (v := .int (nI (qK (hH (kH (kH S (uO (hH S) (((qO (hH S)) + 1) % 14))) (uK (hH (kH S (uO (hH S) (((qO (hH S)) + 1) % 14)))) ((qK (hH S)) - 1))))))) (C := RX0) (T := TX0) (N := 3) hx hb hts hin0 hown hO.1 hP 0 rfl rfl 2 (by decide) hf_18 (fun _ h9 => h9) rfl dX0_remember_41 ?_
    rw [(show nI (qK (hH (kH (kH S (uO (hH S) (((qO (hH S)) + 1) % 14))) (uK (hH (kH S (uO (hH S) (((qO (hH S)) + 1) % 14)))) ((qK (hH S)) - 1))))) = nI (qK (hH S) - 1) from rfl)]
    refine iadd_n (a := (qO (hH S) + 1) % 14) (b := qK (hH S) - 1) hx hb dX0_remember_44 ?_
    refine lv_bipush (v := 14) hx hb dX0_remember_45 (by decide) ?_
    refine irem_n (a := ((qO (hH S) + 1) % 14) + (qK (hH S) - 1)) (b := 14) hx hb ⟨by omega, by omega, by omega⟩ dX0_remember_47 ?_
    refine cl_pr (rSN (As := [.ref (a + 1), .int (nI ((((qO (hH S) + 1) % 14) + (qK (hH S) - 1)) % 14))]) (rest := []) ⟨hx, hb, hml, hown, hts⟩ (c_X6_streetOf l G (a + 1) (a + 2) 14 ((((qO (hH S) + 1) % 14) + (qK (hH S) - 1)) % 14) (Nat.mod_lt _ (by omega)) (by decide)) ⟨va_cnB 2 hts gX0_remember_X6_streetOf_n25 rfl rfl rfl (hO.2 _ (List.mem_of_getElem? (i := 54) rfl)) (hts (.initialized RX6) (by decide +kernel)) (by decide +kernel) ⟨Nat.le_of_ble_eq_true rfl, Nat.le_of_ble_eq_true rfl⟩, hts (.static yX6_streetOf) (by decide +kernel), trivial⟩ (va_P.sub hP [1] rfl) hO rfl hl.1 (Nat.le_of_ble_eq_true rfl) dX0_remember_48 ⟨Nat.le_of_ble_eq_true rfl, Nat.le_of_ble_eq_true rfl⟩) ?_
    refine lv_astore_n (lv' := [(2, .ref (a + 2 + 9 * ((((qO (hH S) + 1) % 14) + (qK (hH S) - 1)) % 14))), (0, .ref a), (1, .ref b)]) hx hb dX0_remember_51 rfl hl (by decide) rfl (fun ls hl => ?_)
    refine lv_aload_n hx hb dX0_remember_52 rfl (lv_at hl 0 rfl) ?_
    refine lv_ifnull hx hb dX0_remember_53 ?_
    refine lv_aload_n hx hb dX0_remember_56 rfl (lv_at hl 0 rfl) ?_
    refine lv_aload_n hx hb dX0_remember_57 rfl (lv_at hl 2 rfl) ?_
    refine cl_mv (rVN (As := [.ref b]) (rest := []) ⟨hx, hb, hml, hown, hts⟩ (c_X4_copyFrom l G (a + 2 + 9 * ((((qO (hH S) + 1) % 14) + (qK (hH S) - 1)) % 14)) b (qF (hH (kH (kH S (uO (hH S) (((qO (hH S)) + 1) % 14))) (uK (hH (kH S (uO (hH S) (((qO (hH S)) + 1) % 14)))) ((qK (hH S)) - 1)))) ((((qO (hH S) + 1) % 14) + (qK (hH S) - 1)) % 14)) (hT (kH (kH S (uO (hH S) (((qO (hH S)) + 1) % 14))) (uK (hH (kH S (uO (hH S) (((qO (hH S)) + 1) % 14)))) ((qK (hH S)) - 1)))) (by omega)) ⟨va_cnB 1 hts gX0_remember_X4_copyFrom_n29 rfl rfl rfl (hO.2 _ (List.mem_of_getElem? (i := 55) rfl)) (hts (.initialized RX4) (by decide +kernel)) (by decide +kernel) ⟨Nat.le_of_ble_eq_true rfl, Nat.le_of_ble_eq_true rfl⟩, hts (.instanceMethod yX4_copyFrom) (by decide +kernel), hts (.selects RX4 yX4_copyFrom yX4_copyFrom) (by decide +kernel)⟩ (st_recv hO (P_app.mp (hs2_row (show ((((qO (hH S) + 1) % 14) + (qK (hH S) - 1)) % 14) < 14 from Nat.mod_lt _ (by omega)) hP)).1) (hs2_row (show ((((qO (hH S) + 1) % 14) + (qK (hH S) - 1)) % 14) < 14 from Nat.mod_lt _ (by omega)) hP) hO rfl hl.1 (Nat.le_of_ble_eq_true rfl) dX0_remember_58 ⟨Nat.le_of_ble_eq_true rfl, Nat.le_of_ble_eq_true rfl⟩) hS (fun q h => hA q (by simp only [blkh, blk2, blk] at *; omega)) (fun H locs hP1 hz hk hS => ?_)
    have hP : Hst2 G a b (kH (kH (kH S (uO (hH S) (((qO (hH S)) + 1) % 14))) (uK (hH (kH S (uO (hH S) (((qO (hH S)) + 1) % 14)))) ((qK (hH S)) - 1))) (uF (hH (kH (kH S (uO (hH S) (((qO (hH S)) + 1) % 14))) (uK (hH (kH S (uO (hH S) (((qO (hH S)) + 1) % 14)))) ((qK (hH S)) - 1)))) ((((qO (hH S) + 1) % 14) + (qK (hH S) - 1)) % 14) (hT (kH (kH S (uO (hH S) (((qO (hH S)) + 1) % 14))) (uK (hH (kH S (uO (hH S) (((qO (hH S)) + 1) % 14)))) ((qK (hH S)) - 1)))))) H := hs2_put (show ((((qO (hH S) + 1) % 14) + (qK (hH S) - 1)) % 14) < 14 from Nat.mod_lt _ (by omega)) hd hP hP1 hk
    refine lv_aload_n hx hb dX0_remember_61 rfl (lv_at hl 1 rfl) ?_
    refine lv_dup hx hb dX0_remember_62 rfl ?_
    refine va_get (D := G.1) (ci := 0) (v := .int (nI (qK (hH (kH (kH (kH S (uO (hH S) (((qO (hH S)) + 1) % 14))) (uK (hH (kH S (uO (hH S) (((qO (hH S)) + 1) % 14)))) ((qK (hH S)) - 1))) (uF (hH (kH (kH S (uO (hH S) (((qO (hH S)) + 1) % 14))) (uK (hH (kH S (uO (hH S) (((qO (hH S)) + 1) % 14)))) ((qK (hH S)) - 1)))) ((((qO (hH S) + 1) % 14) + (qK (hH S) - 1)) % 14) (hT (kH (kH S (uO (hH S) (((qO (hH S)) + 1) % 14))) (uK (hH (kH S (uO (hH S) (((qO (hH S)) + 1) % 14)))) ((qK (hH S)) - 1)))))))))) (C := RX0) (T := TX0) (N := 3) hx hb hts hin0 hown hO.1 hP 0 rfl rfl 2 (by decide) hf_18 (fun _ h9 => h9) rfl dX0_remember_63 ?_
    refine lv_iconst (v := 1) hx hb dX0_remember_66 (by decide) ?_
    refine iadd_n (a := qK (hH (kH (kH (kH S (uO (hH S) (((qO (hH S)) + 1) % 14))) (uK (hH (kH S (uO (hH S) (((qO (hH S)) + 1) % 14)))) ((qK (hH S)) - 1))) (uF (hH (kH (kH S (uO (hH S) (((qO (hH S)) + 1) % 14))) (uK (hH (kH S (uO (hH S) (((qO (hH S)) + 1) % 14)))) ((qK (hH S)) - 1)))) ((((qO (hH S) + 1) % 14) + (qK (hH S) - 1)) % 14) (hT (kH (kH S (uO (hH S) (((qO (hH S)) + 1) % 14))) (uK (hH (kH S (uO (hH S) (((qO (hH S)) + 1) % 14)))) ((qK (hH S)) - 1)))))))) (b := 1) hx hb dX0_remember_67 ?_
    refine va_put (D := G.1) (ci := 0) (v := .int (nI ((qK (hH (kH (kH (kH S (uO (hH S) (((qO (hH S)) + 1) % 14))) (uK (hH (kH S (uO (hH S) (((qO (hH S)) + 1) % 14)))) ((qK (hH S)) - 1))) (uF (hH (kH (kH S (uO (hH S) (((qO (hH S)) + 1) % 14))) (uK (hH (kH S (uO (hH S) (((qO (hH S)) + 1) % 14)))) ((qK (hH S)) - 1)))) ((((qO (hH S) + 1) % 14) + (qK (hH S) - 1)) % 14) (hT (kH (kH S (uO (hH S) (((qO (hH S)) + 1) % 14))) (uK (hH (kH S (uO (hH S) (((qO (hH S)) + 1) % 14)))) ((qK (hH S)) - 1)))))))) + 1))) (ty := .int) (C := RX0) (T := TX0) (N := 3) hx hb hts hin0 tyX0 tyX0_ok nmX0 hown hO.1 hP (two_D2 hd (hs_adr G a _) (hs_len G a _) hA) hS 0 rfl rfl 2 (by decide) hf_18 (fun _ h9 => h9) rfl (by decide +kernel) rfl rfl (Nat.le_of_ble_eq_true rfl) dX0_remember_68 (fun H locs hP hD hS => ?_)
    have hP : Hst2 G a b (kH (kH (kH (kH S (uO (hH S) (((qO (hH S)) + 1) % 14))) (uK (hH (kH S (uO (hH S) (((qO (hH S)) + 1) % 14)))) ((qK (hH S)) - 1))) (uF (hH (kH (kH S (uO (hH S) (((qO (hH S)) + 1) % 14))) (uK (hH (kH S (uO (hH S) (((qO (hH S)) + 1) % 14)))) ((qK (hH S)) - 1)))) ((((qO (hH S) + 1) % 14) + (qK (hH S) - 1)) % 14) (hT (kH (kH S (uO (hH S) (((qO (hH S)) + 1) % 14))) (uK (hH (kH S (uO (hH S) (((qO (hH S)) + 1) % 14)))) ((qK (hH S)) - 1)))))) (uK (hH (kH (kH (kH S (uO (hH S) (((qO (hH S)) + 1) % 14))) (uK (hH (kH S (uO (hH S) (((qO (hH S)) + 1) % 14)))) ((qK (hH S)) - 1))) (uF (hH (kH (kH S (uO (hH S) (((qO (hH S)) + 1) % 14))) (uK (hH (kH S (uO (hH S) (((qO (hH S)) + 1) % 14)))) ((qK (hH S)) - 1)))) ((((qO (hH S) + 1) % 14) + (qK (hH S) - 1)) % 14) (hT (kH (kH S (uO (hH S) (((qO (hH S)) + 1) % 14))) (uK (hH (kH S (uO (hH S) (((qO (hH S)) + 1) % 14)))) ((qK (hH S)) - 1))))))) ((qK (hH (kH (kH (kH S (uO (hH S) (((qO (hH S)) + 1) % 14))) (uK (hH (kH S (uO (hH S) (((qO (hH S)) + 1) % 14)))) ((qK (hH S)) - 1))) (uF (hH (kH (kH S (uO (hH S) (((qO (hH S)) + 1) % 14))) (uK (hH (kH S (uO (hH S) (((qO (hH S)) + 1) % 14)))) ((qK (hH S)) - 1)))) ((((qO (hH S) + 1) % 14) + (qK (hH S) - 1)) % 14) (hT (kH (kH S (uO (hH S) (((qO (hH S)) + 1) % 14))) (uK (hH (kH S (uO (hH S) (((qO (hH S)) + 1) % 14)))) ((qK (hH S)) - 1)))))))) + 1))) H := hs2_pK hP
    have hE : h_X0_remember S = (kH (kH (kH (kH S (uO (hH S) (((qO (hH S)) + 1) % 14))) (uK (hH (kH S (uO (hH S) (((qO (hH S)) + 1) % 14)))) ((qK (hH S)) - 1))) (uF (hH (kH (kH S (uO (hH S) (((qO (hH S)) + 1) % 14))) (uK (hH (kH S (uO (hH S) (((qO (hH S)) + 1) % 14)))) ((qK (hH S)) - 1)))) ((((qO (hH S) + 1) % 14) + (qK (hH S) - 1)) % 14) (hT (kH (kH S (uO (hH S) (((qO (hH S)) + 1) % 14))) (uK (hH (kH S (uO (hH S) (((qO (hH S)) + 1) % 14)))) ((qK (hH S)) - 1)))))) (uK (hH (kH (kH (kH S (uO (hH S) (((qO (hH S)) + 1) % 14))) (uK (hH (kH S (uO (hH S) (((qO (hH S)) + 1) % 14)))) ((qK (hH S)) - 1))) (uF (hH (kH (kH S (uO (hH S) (((qO (hH S)) + 1) % 14))) (uK (hH (kH S (uO (hH S) (((qO (hH S)) + 1) % 14)))) ((qK (hH S)) - 1)))) ((((qO (hH S) + 1) % 14) + (qK (hH S) - 1)) % 14) (hT (kH (kH S (uO (hH S) (((qO (hH S)) + 1) % 14))) (uK (hH (kH S (uO (hH S) (((qO (hH S)) + 1) % 14)))) ((qK (hH S)) - 1))))))) ((qK (hH (kH (kH (kH S (uO (hH S) (((qO (hH S)) + 1) % 14))) (uK (hH (kH S (uO (hH S) (((qO (hH S)) + 1) % 14)))) ((qK (hH S)) - 1))) (uF (hH (kH (kH S (uO (hH S) (((qO (hH S)) + 1) % 14))) (uK (hH (kH S (uO (hH S) (((qO (hH S)) + 1) % 14)))) ((qK (hH S)) - 1)))) ((((qO (hH S) + 1) % 14) + (qK (hH S) - 1)) % 14) (hT (kH (kH S (uO (hH S) (((qO (hH S)) + 1) % 14))) (uK (hH (kH S (uO (hH S) (((qO (hH S)) + 1) % 14)))) ((qK (hH S)) - 1)))))))) + 1))) := (by rw [h_X0_remember, if_neg c_1])
    exact W.vret hx hb hr (fun t ht hW => ⟨rfl, by rw [ht, hE]; exact hP, hS.F ht⟩) hS.2.2 dX0_remember_71

def h_X0_takeBack (S : HS) : Int32 × HS :=
  if (f_X0_isEmpty (hH S)) = 0 then (nI (qK (hH S) - 1), (kT (kH S (uK (hH S) ((qK (hH S)) - 1))) (qF (hH (kH S (uK (hH S) ((qK (hH S)) - 1)))) (((qO (hH S)) + (qK (hH S) - 1)) % 14)))) else
  ((-1), S)
set_option maxHeartbeats 4000000 in
set_option maxRecDepth 100000 in
theorem c_X0_takeBack (l : Launch) (G : GG) (a b : Nat) (S : HS) (hd : b + 9 ≤ a ∨ a + 128 ≤ b) (hO14 : qO (hH S) < 14) (hK14 : qK (hH S) ≤ 14) : Met l yX0_takeBack wsX0_takeBack ({ frames := 3, cells := 0, slots := 0, locals := 60 }) (PcH G [.ref a, .ref b] (Hst2 G a b S)) (QM (some (.int ((h_X0_takeBack S).1))) (Hst2 G a b ((h_X0_takeBack S).2)) (blkh a 128 b)) 0 0 (blkh a 128 b) := by
  refine metH (cc := cX0_takeBack) (maxL := 2) (ret := (some .int)) (by decide) rfl ?_
  intro p e s m below meth cd hx hb hr hml hown hts hlocks hP hO
  have hin0 : ∀ w ∈ u_ws RX0 TX0 3, w ∈ wsX0_takeBack := by decide +kernel
  have hf_11 := hts (.fieldLink RX0 11 "CurbCars$History" "kept" "[LCurbCars$Street;") (by decide +kernel)
  have hf_18 := hts (.fieldLink RX0 18 "CurbCars$History" "count" "I") (by decide +kernel)
  have hf_22 := hts (.fieldLink RX0 22 "CurbCars$History" "oldest" "I") (by decide +kernel)
  have hA : ∀ q, (blkh a 128 b) q → (blkh a 128 b) q := fun _ h => h
  have hS : va_S (blkh a 128 b) s.heap s.heap [] := va_S.rf
  have hl := lv_entry ([.ref a, .ref b]) (n := 2) (Nat.le_of_ble_eq_true rfl)
  rw [lg_entry_eq]
  generalize (lg_sl ([.ref a, .ref b]) ++ List.replicate (2 - (lg_sl ([.ref a, .ref b])).length) Slot.unset).toArray = ls at hl ⊢
  have hl : lv_has ls 2 [(0, .ref a), (1, .ref b)] := hl
  refine lv_aload_n hx hb dX0_takeBack_0 rfl (lv_at hl 1 rfl) ?_
  refine lv_ifnull hx hb dX0_takeBack_1 ?_
  refine lv_aload_n hx hb dX0_takeBack_4 rfl (lv_at hl 0 rfl) ?_
  refine cl_pi (rV (As := []) (rest := []) ⟨hx, hb, hml, hown, hts⟩ (c_X0_isEmpty l G a (hH S)) (cwV 0 hts gX0_takeBack_X0_isEmpty rfl rfl rfl (by decide +kernel) ⟨Nat.le_of_ble_eq_true rfl, Nat.le_of_ble_eq_true rfl⟩) (hs_recv hO hP) (P_app.mp hP).1 hO rfl hl.1 (Nat.le_of_ble_eq_true rfl) dX0_takeBack_5 ⟨Nat.le_of_ble_eq_true rfl, Nat.le_of_ble_eq_true rfl⟩) ?_
  refine lv_if_eq (tgt := 13) hx hb dX0_takeBack_8 (by decide) (fun c_1 => ?_) (fun c_1 => ?_)
  · refine lv_aload_n hx hb dX0_takeBack_13 rfl (lv_at hl 0 rfl) ?_
    refine lv_dup hx hb dX0_takeBack_14 rfl ?_
    refine va_get (D := G.1) (ci := 0) (v := .int (nI (qK (hH S)))) (C := RX0) (T := TX0) (N := 3) hx hb hts hin0 hown hO.1 hP 0 rfl rfl 2 (by decide) hf_18 (fun _ h9 => h9) rfl dX0_takeBack_15 ?_
    refine lv_iconst (v := 1) hx hb dX0_takeBack_18 (by decide) ?_
    refine isub_n (a := qK (hH S)) (b := 1) hx hb (emp_pos hK14 (by assumption)) dX0_takeBack_19 ?_
    refine va_put (D := G.1) (ci := 0) (v := .int (nI ((qK (hH S)) - 1))) (ty := .int) (C := RX0) (T := TX0) (N := 3) hx hb hts hin0 tyX0 tyX0_ok nmX0 hown hO.1 hP (two_D2 hd (hs_adr G a _) (hs_len G a _) hA) hS 0 rfl rfl 2 (by decide) hf_18 (fun _ h9 => h9) rfl (by decide +kernel) rfl rfl (Nat.le_of_ble_eq_true rfl) dX0_takeBack_20 (fun H locs hP hD hS => ?_)
    have hP : Hst2 G a b (kH S (uK (hH S) ((qK (hH S)) - 1))) H := hs2_pK hP
    refine lv_aload_n hx hb dX0_takeBack_23 rfl (lv_at hl 1 rfl) ?_
    refine lv_aload_n hx hb dX0_takeBack_24 rfl (lv_at hl 0 rfl) ?_
    refine va_get (D := G.1) (ci := 0) (v := .ref (a + 1)) (C := RX0) (T := TX0) (N := 3) hx hb hts hin0 hown hO.1 hP 0 rfl rfl 0 (by decide) hf_11 (fun _ h9 => h9) rfl dX0_takeBack_25 ?_
    refine lv_aload_n hx hb dX0_takeBack_28 rfl (lv_at hl 0 rfl) ?_
    refine va_get (D := G.1) (ci := 0) (v := .int (nI (qO (hH (kH S (uK (hH S) ((qK (hH S)) - 1))))))) (C := RX0) (T := TX0) (N := 3) hx hb hts hin0 hown hO.1 hP 0 rfl rfl 1 (by decide) hf_22 (fun _ h9 => h9) rfl dX0_takeBack_29 ?_
    rw [(show nI (qO (hH (kH S (uK (hH S) ((qK (hH S)) - 1))))) = nI (qO (hH S)) from rfl)]
    refine lv_aload_n hx hb dX0_takeBack_32 rfl (lv_at hl 0 rfl) ?_
    refine va_get (D := G.1) (ci := 0) (v := .int (nI (qK (hH (kH S (uK (hH S) ((qK (hH S)) - 1))))))) (C := RX0) (T := TX0) (N := 3) hx hb hts hin0 hown hO.1 hP 0 rfl rfl 2 (by decide) hf_18 (fun _ h9 => h9) rfl dX0_takeBack_33 ?_
    rw [(show nI (qK (hH (kH S (uK (hH S) ((qK (hH S)) - 1))))) = nI (qK (hH S) - 1) from rfl)]
    refine iadd_n (a := qO (hH S)) (b := qK (hH S) - 1) hx hb dX0_takeBack_36 ?_
    refine lv_bipush (v := 14) hx hb dX0_takeBack_37 (by decide) ?_
    refine irem_n (a := (qO (hH S)) + (qK (hH S) - 1)) (b := 14) hx hb ⟨by omega, by omega, by omega⟩ dX0_takeBack_39 ?_
    refine cl_pr (rSN (As := [.ref (a + 1), .int (nI (((qO (hH S)) + (qK (hH S) - 1)) % 14))]) (rest := [.ref b]) ⟨hx, hb, hml, hown, hts⟩ (c_X6_streetOf l G (a + 1) (a + 2) 14 (((qO (hH S)) + (qK (hH S) - 1)) % 14) (Nat.mod_lt _ (by omega)) (by decide)) ⟨va_cnB 2 hts gX0_takeBack_X6_streetOf_n25 rfl rfl rfl (hO.2 _ (List.mem_of_getElem? (i := 54) rfl)) (hts (.initialized RX6) (by decide +kernel)) (by decide +kernel) ⟨Nat.le_of_ble_eq_true rfl, Nat.le_of_ble_eq_true rfl⟩, hts (.static yX6_streetOf) (by decide +kernel), trivial⟩ (va_P.sub hP [1] rfl) hO rfl hl.1 (Nat.le_of_ble_eq_true rfl) dX0_takeBack_40 ⟨Nat.le_of_ble_eq_true rfl, Nat.le_of_ble_eq_true rfl⟩) ?_
    refine cl_mv (rVN (As := [.ref (a + 2 + 9 * (((qO (hH S)) + (qK (hH S) - 1)) % 14))]) (rest := []) ⟨hx, hb, hml, hown, hts⟩ (c_X4_copyFrom l G b (a + 2 + 9 * (((qO (hH S)) + (qK (hH S) - 1)) % 14)) (hT (kH S (uK (hH S) ((qK (hH S)) - 1)))) (qF (hH (kH S (uK (hH S) ((qK (hH S)) - 1)))) (((qO (hH S)) + (qK (hH S) - 1)) % 14)) (by omega)) ⟨va_cnB 1 hts gX0_takeBack_X4_copyFrom_n29 rfl rfl rfl (hO.2 _ (List.mem_of_getElem? (i := 55) rfl)) (hts (.initialized RX4) (by decide +kernel)) (by decide +kernel) ⟨Nat.le_of_ble_eq_true rfl, Nat.le_of_ble_eq_true rfl⟩, hts (.instanceMethod yX4_copyFrom) (by decide +kernel), hts (.selects RX4 yX4_copyFrom yX4_copyFrom) (by decide +kernel)⟩ (st_recv hO (P_app.mp (hs2_row' (show (((qO (hH S)) + (qK (hH S) - 1)) % 14) < 14 from Nat.mod_lt _ (by omega)) hP)).1) (hs2_row' (show (((qO (hH S)) + (qK (hH S) - 1)) % 14) < 14 from Nat.mod_lt _ (by omega)) hP) hO rfl hl.1 (Nat.le_of_ble_eq_true rfl) dX0_takeBack_43 ⟨Nat.le_of_ble_eq_true rfl, Nat.le_of_ble_eq_true rfl⟩) hS (fun q h => hA q (by simp only [blkh, blk2, blk] at *; omega)) (fun H locs hP1 hz hk hS => ?_)
    have hP : Hst2 G a b (kT (kH S (uK (hH S) ((qK (hH S)) - 1))) (qF (hH (kH S (uK (hH S) ((qK (hH S)) - 1)))) (((qO (hH S)) + (qK (hH S) - 1)) % 14))) H := hs2_get (show (((qO (hH S)) + (qK (hH S) - 1)) % 14) < 14 from Nat.mod_lt _ (by omega)) hd hP hP1 hk
    refine lv_aload_n hx hb dX0_takeBack_46 rfl (lv_at hl 0 rfl) ?_
    refine va_get (D := G.1) (ci := 0) (v := .int (nI (qK (hH (kT (kH S (uK (hH S) ((qK (hH S)) - 1))) (qF (hH (kH S (uK (hH S) ((qK (hH S)) - 1)))) (((qO (hH S)) + (qK (hH S) - 1)) % 14))))))) (C := RX0) (T := TX0) (N := 3) hx hb hts hin0 hown hO.1 hP 0 rfl rfl 2 (by decide) hf_18 (fun _ h9 => h9) rfl dX0_takeBack_47 ?_
    rw [(show nI (qK (hH (kT (kH S (uK (hH S) ((qK (hH S)) - 1))) (qF (hH (kH S (uK (hH S) ((qK (hH S)) - 1)))) (((qO (hH S)) + (qK (hH S) - 1)) % 14))))) = nI (qK (hH S) - 1) from rfl)]
    have hE : h_X0_takeBack S = (nI (qK (hH S) - 1), (kT (kH S (uK (hH S) ((qK (hH S)) - 1))) (qF (hH (kH S (uK (hH S) ((qK (hH S)) - 1)))) (((qO (hH S)) + (qK (hH S) - 1)) % 14)))) := (by rw [h_X0_takeBack, if_pos c_1])
    have hE2 := snd_of hE
    exact W.iret hx hb hr (fun t ht hW => ⟨by rw [fst_of hE], by rw [ht, hE2]; exact hP, hS.F ht⟩) hS.2.2 dX0_takeBack_50
  · refine lv_iconst (v := -1) hx hb dX0_takeBack_11 (by decide) ?_
    have hE : h_X0_takeBack S = ((-1), S) := (by rw [h_X0_takeBack, if_neg c_1])
    have hE2 := snd_of hE
    exact W.iret hx hb hr (fun t ht hW => ⟨by rw [fst_of hE], by rw [ht, hE2]; exact hP, hS.F ht⟩) hS.2.2 dX0_takeBack_12

def lp_sEmpty  : Nat → Nat → Sl → Sl
  | 0, _, D2 => D2
  | n + 1, k, D2 => if 2 ≤ (nI k) then D2 else
    lp_sEmpty n (k + 1) (uB D2 (upd (vB D2) (nI k).toNatClampNeg (vp_nar .boolean 0)))
def h_X1_empty (D : Sl) : Sl :=
  lp_sEmpty (2 + 1) 0 D
set_option maxHeartbeats 4000000 in
set_option maxRecDepth 100000 in
theorem c_X1_empty (l : Launch) (G : GG) (a : Nat) (D : Sl) : Met l yX1_empty wsX1_empty ({ frames := 0, cells := 0, slots := 0, locals := 0 }) (PcH G [.ref a] (va_P G.1 vwCl (svW G a D))) (QM none (va_P G.1 vwCl (svW G a (h_X1_empty D))) (blk a (a + 21))) 0 0 (blk a (a + 21)) := by
  refine metH (cc := cX1_empty) (maxL := 2) (ret := none) (by decide) rfl ?_
  intro p e s m below meth cd hx hb hr hml hown hts hlocks hP hO
  have hin1 : ∀ w ∈ u_ws RX1 TX1 2, w ∈ wsX1_empty := by decide +kernel
  have hf_17 := hts (.fieldLink RX1 17 "CurbCars$SaveSlots" "filled" "[Z") (by decide +kernel)
  have hA : ∀ q, (blk a (a + 21)) q → (blk a (a + 21)) q := fun _ h => h
  have hS : va_S (blk a (a + 21)) s.heap s.heap [] := va_S.rf
  have hl := lv_entry ([.ref a]) (n := 2) (Nat.le_of_ble_eq_true rfl)
  rw [lg_entry_eq]
  generalize (lg_sl ([.ref a]) ++ List.replicate (2 - (lg_sl ([.ref a])).length) Slot.unset).toArray = ls at hl ⊢
  have hl : lv_has ls 2 [(0, .ref a)] := hl
  have loop2 : ∀ (n : Nat) (k : Nat) (D2 : Sl), k ≤ 2 → k + n = 2 + 1 → h_X1_empty D = lp_sEmpty  n k D2 → ∀ (H : Heap) (locs : List Loc) (ls : Array Slot), va_P G.1 vwCl (svW G a D2) H → va_S (blk a (a + 21)) s.heap H locs → lv_has ls 2 [(0, .ref a), (1, .int (nI k))] → W p l e (headSpec wsX1_empty ({ frames := 0, cells := 0, slots := 0, locals := 0 } : Room)).room s m ([.ref a] : List Value).toArray below meth cd H locs 0 0 (MQ below (QM none (va_P G.1 vwCl (svW G a (h_X1_empty D))) (blk a (a + 21))) ([.ref a] : List Value).toArray s 0 0 (blk a (a + 21))) (F0 m 2 ls []) := by
    intro n
    induction n with
    | zero =>
      intro k D2 hk hn hR H locs ls hP hS hl
      exact absurd hn (by omega)
    | succ n ih =>
      intro k D2 hk hn hR H locs ls hP hS hl
      refine lv_iload_n hx hb dX1_empty_2 rfl (lv_at hl 1 rfl) ?_
      refine lv_aload_n hx hb dX1_empty_3 rfl (lv_at hl 0 rfl) ?_
      refine va_get (D := G.1) (ci := 1) (v := .ref (a + 2)) (C := RX1) (T := TX1) (N := 2) hx hb hts hin1 hown hO.1 hP 0 rfl rfl 1 (by decide) hf_17 (fun _ h9 => h9) rfl dX1_empty_4 ?_
      refine va_alen (ty := .boolean) (v := 2) hx hb hO.1 hP 2 2 rfl rfl rfl dX1_empty_7 ?_
      refine lv_icmp_ge (tgt := 24) hx hb dX1_empty_8 (by decide) (fun c_1 => ?_) (fun c_1 => ?_)
      · have hE : h_X1_empty D = D2 := (hR.trans (by rw [lp_sEmpty, if_pos c_1]))
        exact W.vret hx hb hr (fun t ht hW => ⟨rfl, by rw [ht, hE]; exact hP, hS.F ht⟩) hS.2.2 dX1_empty_24
      · have hlt : k < 2 := kN (B := 2) c_1 (by omega) (by omega)
        refine lv_aload_n hx hb dX1_empty_11 rfl (lv_at hl 0 rfl) ?_
        refine va_get (D := G.1) (ci := 1) (v := .ref (a + 2)) (C := RX1) (T := TX1) (N := 2) hx hb hts hin1 hown hO.1 hP 0 rfl rfl 1 (by decide) hf_17 (fun _ h9 => h9) rfl dX1_empty_12 ?_
        refine lv_iload_n hx hb dX1_empty_15 rfl (lv_at hl 1 rfl) ?_
        refine lv_iconst (v := 0) hx hb dX1_empty_16 (by decide) ?_
        refine va_zast hx hb hO.1 hP (Adr.D (sv_adr G a D2) (fun q h1 h2 => hA q ⟨h1, by rw [sv_len] at h2; exact h2⟩)) hS 2 2 rfl rfl (vp_in_nI hlt (by omega)) dX1_empty_17 (fun H locs hP hD hS => ?_)
        have hP : va_P G.1 vwCl (svW G a (uB D2 (upd (vB D2) (nI k).toNatClampNeg (vp_nar .boolean 0)))) H := sv_pB hP
        refine lv_iinc (v := nI (k + 1)) (lv' := [(1, .int (nI (k + 1))), (0, .ref a)]) hx hb dX1_empty_18 hl (k := 1) rfl (nI_1 _) (by decide) rfl (fun ls hl => ?_)
        refine lv_goto (tgt := 2) hx hb dX1_empty_21 (by decide) ?_
        have hE_2 : h_X1_empty D = lp_sEmpty n (k + 1) (uB D2 (upd (vB D2) (nI k).toNatClampNeg (vp_nar .boolean 0))) := (hR.trans (by rw [lp_sEmpty, if_neg c_1]))
        exact ih (k + 1) (uB D2 (upd (vB D2) (nI k).toNatClampNeg (vp_nar .boolean 0))) (by omega) (by omega) hE_2 _ _ _ hP hS (lv_sub hl [1, 0] rfl)
  refine lv_iconst (v := 0) hx hb dX1_empty_0 (by decide) ?_
  refine lv_istore_n (lv' := [(1, .int 0), (0, .ref a)]) hx hb dX1_empty_1 rfl hl (by decide) rfl (fun ls hl => ?_)
  have hE_3 : h_X1_empty D = lp_sEmpty (2 + 1) 0 D := (by rw [h_X1_empty])
  exact loop2 (2 + 1) 0 D (Nat.zero_le _) (by omega) hE_3 _ _ _ hP hS (lv_sub hl [1, 0] rfl)

def f_X1_isFilled (D : Sl) (x : Int32) : Int32 :=
  if x < 0 then 0 else
  if 2 ≤ x then 0 else
  if ((vB D) x.toNatClampNeg) = 0 then 0 else
  1
set_option maxHeartbeats 4000000 in
set_option maxRecDepth 100000 in
theorem c_X1_isFilled (l : Launch) (G : GG) (a : Nat) (D : Sl) (x : Int32) : Met l yX1_isFilled wsX1_isFilled ({ frames := 0, cells := 0, slots := 0, locals := 0 }) (PcH G [.ref a, .int x] (va_P G.1 vwCl (svW G a D))) (QP (some (.int (f_X1_isFilled D x)))) 0 0 noA := by
  refine metH (cc := cX1_isFilled) (maxL := 2) (ret := (some .boolean)) (by decide) rfl ?_
  intro p e s m below meth cd hx hb hr hml hown hts hlocks hP hO
  have hin1 : ∀ w ∈ u_ws RX1 TX1 2, w ∈ wsX1_isFilled := by decide +kernel
  have hf_17 := hts (.fieldLink RX1 17 "CurbCars$SaveSlots" "filled" "[Z") (by decide +kernel)
  have hS : va_S noA s.heap s.heap [] := va_S.rf
  have hl := lv_entry ([.ref a, .int x]) (n := 2) (Nat.le_of_ble_eq_true rfl)
  rw [lg_entry_eq]
  generalize (lg_sl ([.ref a, .int x]) ++ List.replicate (2 - (lg_sl ([.ref a, .int x])).length) Slot.unset).toArray = ls at hl ⊢
  have hl : lv_has ls 2 [(0, .ref a), (1, .int x)] := hl
  refine lv_iload_n hx hb dX1_isFilled_0 rfl (lv_at hl 1 rfl) ?_
  refine lv_if_lt (tgt := 26) hx hb dX1_isFilled_1 (by decide) (fun c_1 => ?_) (fun c_1 => ?_)
  · refine lv_iconst (v := 0) hx hb dX1_isFilled_26 (by decide) ?_
    have hE : f_X1_isFilled D x = 0 := (by rw [f_X1_isFilled, if_pos c_1])
    exact W.zret (ty := .boolean) hx hb hr rfl (fun t ht hW => ⟨by rw [hE], ht⟩) hS.2.2 dX1_isFilled_27
  · refine lv_iload_n hx hb dX1_isFilled_4 rfl (lv_at hl 1 rfl) ?_
    refine lv_aload_n hx hb dX1_isFilled_5 rfl (lv_at hl 0 rfl) ?_
    refine va_get (D := G.1) (ci := 1) (v := .ref (a + 2)) (C := RX1) (T := TX1) (N := 2) hx hb hts hin1 hown hO.1 hP 0 rfl rfl 1 (by decide) hf_17 (fun _ h9 => h9) rfl dX1_isFilled_6 ?_
    refine va_alen (ty := .boolean) (v := 2) hx hb hO.1 hP 2 2 rfl rfl rfl dX1_isFilled_9 ?_
    refine lv_icmp_ge (tgt := 26) hx hb dX1_isFilled_10 (by decide) (fun c_2 => ?_) (fun c_2 => ?_)
    · refine lv_iconst (v := 0) hx hb dX1_isFilled_26 (by decide) ?_
      have hE : f_X1_isFilled D x = 0 := (by rw [f_X1_isFilled, if_neg c_1, if_pos c_2])
      exact W.zret (ty := .boolean) hx hb hr rfl (fun t ht hW => ⟨by rw [hE], ht⟩) hS.2.2 dX1_isFilled_27
    · refine lv_aload_n hx hb dX1_isFilled_13 rfl (lv_at hl 0 rfl) ?_
      refine va_get (D := G.1) (ci := 1) (v := .ref (a + 2)) (C := RX1) (T := TX1) (N := 2) hx hb hts hin1 hown hO.1 hP 0 rfl rfl 1 (by decide) hf_17 (fun _ h9 => h9) rfl dX1_isFilled_14 ?_
      refine lv_iload_n hx hb dX1_isFilled_17 rfl (lv_at hl 1 rfl) ?_
      refine va_zald hx hb hO.1 hP 2 2 rfl rfl (by first | exact in_of (by assumption) (by assumption) (by decide) | exact in_ofl (by assumption) (by assumption) (by decide)) dX1_isFilled_18 ?_
      refine lv_if_eq (tgt := 26) hx hb dX1_isFilled_19 (by decide) (fun c_3 => ?_) (fun c_3 => ?_)
      · refine lv_iconst (v := 0) hx hb dX1_isFilled_26 (by decide) ?_
        have hE : f_X1_isFilled D x = 0 := (by rw [f_X1_isFilled, if_neg c_1, if_neg c_2, if_pos c_3])
        exact W.zret (ty := .boolean) hx hb hr rfl (fun t ht hW => ⟨by rw [hE], ht⟩) hS.2.2 dX1_isFilled_27
      · refine lv_iconst (v := 1) hx hb dX1_isFilled_22 (by decide) ?_
        refine lv_goto (tgt := 27) hx hb dX1_isFilled_23 (by decide) ?_
        have hE : f_X1_isFilled D x = 1 := (by rw [f_X1_isFilled, if_neg c_1, if_neg c_2, if_neg c_3])
        exact W.zret (ty := .boolean) hx hb hr rfl (fun t ht hW => ⟨by rw [hE], ht⟩) hS.2.2 dX1_isFilled_27

theorem b_f_X1_isFilled (D : Sl) (x : Int32) : f_X1_isFilled D x = 0 ∨ f_X1_isFilled D x = 1 := by
  unfold f_X1_isFilled
  repeat' split
  all_goals first | exact Or.inl rfl | exact Or.inr rfl

def h_X1_keep (S : VS) (j : Nat) : VS :=
  if (nI j) < 0 then S else
  if 2 ≤ (nI j) then S else
  (jH (jH S (uW (vH S) j (vT S))) (uB (vH (jH S (uW (vH S) j (vT S)))) (upd (vB (vH (jH S (uW (vH S) j (vT S))))) (nI j).toNatClampNeg (vp_nar .boolean 1))))
set_option maxHeartbeats 4000000 in
set_option maxRecDepth 100000 in
theorem c_X1_keep (l : Launch) (G : GG) (a b : Nat) (S : VS) (j : Nat) (hd : b + 9 ≤ a ∨ a + 21 ≤ b) (hj2 : j < 2) : Met l yX1_keep wsX1_keep ({ frames := 3, cells := 0, slots := 0, locals := 60 }) (PcH G [.ref a, .int (nI j), .ref b] (Slt2 G a b S)) (QM none (Slt2 G a b (h_X1_keep S j)) (blkh a 21 b)) 0 0 (blkh a 21 b) := by
  refine metH (cc := cX1_keep) (maxL := 4) (ret := none) (by decide) rfl ?_
  intro p e s m below meth cd hx hb hr hml hown hts hlocks hP hO
  have hin1 : ∀ w ∈ u_ws RX1 TX1 2, w ∈ wsX1_keep := by decide +kernel
  have hf_11 := hts (.fieldLink RX1 11 "CurbCars$SaveSlots" "kept" "[LCurbCars$Street;") (by decide +kernel)
  have hf_17 := hts (.fieldLink RX1 17 "CurbCars$SaveSlots" "filled" "[Z") (by decide +kernel)
  have hA : ∀ q, (blkh a 21 b) q → (blkh a 21 b) q := fun _ h => h
  have hS : va_S (blkh a 21 b) s.heap s.heap [] := va_S.rf
  have hl := lv_entry ([.ref a, .int (nI j), .ref b]) (n := 4) (Nat.le_of_ble_eq_true rfl)
  rw [lg_entry_eq]
  generalize (lg_sl ([.ref a, .int (nI j), .ref b]) ++ List.replicate (4 - (lg_sl ([.ref a, .int (nI j), .ref b])).length) Slot.unset).toArray = ls at hl ⊢
  have hl : lv_has ls 4 [(0, .ref a), (1, .int (nI j)), (2, .ref b)] := hl
  refine lv_aload_n hx hb dX1_keep_0 rfl (lv_at hl 0 rfl) ?_
  refine va_get (D := G.1) (ci := 1) (v := .ref (a + 1)) (C := RX1) (T := TX1) (N := 2) hx hb hts hin1 hown hO.1 hP 0 rfl rfl 0 (by decide) hf_11 (fun _ h9 => h9) rfl dX1_keep_1 ?_
  refine lv_iload_n hx hb dX1_keep_4 rfl (lv_at hl 1 rfl) ?_
  refine cl_pr (rSN (As := [.ref (a + 1), .int (nI j)]) (rest := []) ⟨hx, hb, hml, hown, hts⟩ (c_X6_streetOf l G (a + 1) (a + 3) 2 j hj2 (by decide)) ⟨va_cnB 2 hts gX1_keep_X6_streetOf_n22 rfl rfl rfl (hO.2 _ (List.mem_of_getElem? (i := 73) rfl)) (hts (.initialized RX6) (by decide +kernel)) (by decide +kernel) ⟨Nat.le_of_ble_eq_true rfl, Nat.le_of_ble_eq_true rfl⟩, hts (.static yX6_streetOf) (by decide +kernel), trivial⟩ (va_P.sub hP [1] rfl) hO rfl hl.1 (Nat.le_of_ble_eq_true rfl) dX1_keep_5 ⟨Nat.le_of_ble_eq_true rfl, Nat.le_of_ble_eq_true rfl⟩) ?_
  refine lv_astore_n (lv' := [(3, .ref (a + 3 + 9 * j)), (0, .ref a), (1, .int (nI j)), (2, .ref b)]) hx hb dX1_keep_8 rfl hl (by decide) rfl (fun ls hl => ?_)
  refine lv_aload_n hx hb dX1_keep_9 rfl (lv_at hl 0 rfl) ?_
  refine lv_ifnull hx hb dX1_keep_10 ?_
  refine lv_iload_n hx hb dX1_keep_13 rfl (lv_at hl 2 rfl) ?_
  refine lv_if_lt (tgt := 38) hx hb dX1_keep_14 (by decide) (fun c_1 => ?_) (fun c_1 => ?_)
  · have hE : h_X1_keep S j = S := (by rw [h_X1_keep, if_pos c_1])
    exact W.vret hx hb hr (fun t ht hW => ⟨rfl, by rw [ht, hE]; exact hP, hS.F ht⟩) hS.2.2 dX1_keep_38
  · refine lv_iload_n hx hb dX1_keep_17 rfl (lv_at hl 2 rfl) ?_
    refine lv_aload_n hx hb dX1_keep_18 rfl (lv_at hl 1 rfl) ?_
    refine va_get (D := G.1) (ci := 1) (v := .ref (a + 2)) (C := RX1) (T := TX1) (N := 2) hx hb hts hin1 hown hO.1 hP 0 rfl rfl 1 (by decide) hf_17 (fun _ h9 => h9) rfl dX1_keep_19 ?_
    refine va_alen (ty := .boolean) (v := 2) hx hb hO.1 hP 2 2 rfl rfl rfl dX1_keep_22 ?_
    refine lv_icmp_ge (tgt := 38) hx hb dX1_keep_23 (by decide) (fun c_2 => ?_) (fun c_2 => ?_)
    · have hE : h_X1_keep S j = S := (by rw [h_X1_keep, if_neg c_1, if_pos c_2])
      exact W.vret hx hb hr (fun t ht hW => ⟨rfl, by rw [ht, hE]; exact hP, hS.F ht⟩) hS.2.2 dX1_keep_38
    · refine lv_aload_n hx hb dX1_keep_26 rfl (lv_at hl 0 rfl) ?_
      refine lv_aload_n hx hb dX1_keep_27 rfl (lv_at hl 3 rfl) ?_
      refine cl_mv (rVN (As := [.ref b]) (rest := []) ⟨hx, hb, hml, hown, hts⟩ (c_X4_copyFrom l G (a + 3 + 9 * j) b (vF (vH S) j) (vT S) (by omega)) ⟨va_cnB 1 hts gX1_keep_X4_copyFrom_n26 rfl rfl rfl (hO.2 _ (List.mem_of_getElem? (i := 74) rfl)) (hts (.initialized RX4) (by decide +kernel)) (by decide +kernel) ⟨Nat.le_of_ble_eq_true rfl, Nat.le_of_ble_eq_true rfl⟩, hts (.instanceMethod yX4_copyFrom) (by decide +kernel), hts (.selects RX4 yX4_copyFrom yX4_copyFrom) (by decide +kernel)⟩ (st_recv hO (P_app.mp (sv2_row hj2 hP)).1) (sv2_row hj2 hP) hO rfl hl.1 (Nat.le_of_ble_eq_true rfl) dX1_keep_28 ⟨Nat.le_of_ble_eq_true rfl, Nat.le_of_ble_eq_true rfl⟩) hS (fun q h => hA q (by simp only [blkh, blk2, blk] at *; omega)) (fun H locs hP1 hz hk hS => ?_)
      have hP : Slt2 G a b (jH S (uW (vH S) j (vT S))) H := sv2_put hj2 hd hP hP1 hk
      refine lv_aload_n hx hb dX1_keep_31 rfl (lv_at hl 1 rfl) ?_
      refine va_get (D := G.1) (ci := 1) (v := .ref (a + 2)) (C := RX1) (T := TX1) (N := 2) hx hb hts hin1 hown hO.1 hP 0 rfl rfl 1 (by decide) hf_17 (fun _ h9 => h9) rfl dX1_keep_32 ?_
      refine lv_iload_n hx hb dX1_keep_35 rfl (lv_at hl 2 rfl) ?_
      refine lv_iconst (v := 1) hx hb dX1_keep_36 (by decide) ?_
      refine va_zast hx hb hO.1 hP (two_D2 hd (sv_adr G a _) (sv_len G a _) hA) hS 2 2 rfl rfl (vp_in_nI hj2 (by omega)) dX1_keep_37 (fun H locs hP hD hS => ?_)
      have hP : Slt2 G a b (jH (jH S (uW (vH S) j (vT S))) (uB (vH (jH S (uW (vH S) j (vT S)))) (upd (vB (vH (jH S (uW (vH S) j (vT S))))) (nI j).toNatClampNeg (vp_nar .boolean 1)))) H := sv2_pB hP
      have hE : h_X1_keep S j = (jH (jH S (uW (vH S) j (vT S))) (uB (vH (jH S (uW (vH S) j (vT S)))) (upd (vB (vH (jH S (uW (vH S) j (vT S))))) (nI j).toNatClampNeg (vp_nar .boolean 1)))) := (by rw [h_X1_keep, if_neg c_1, if_neg c_2])
      exact W.vret hx hb hr (fun t ht hW => ⟨rfl, by rw [ht, hE]; exact hP, hS.F ht⟩) hS.2.2 dX1_keep_38

def h_X1_giveBack (S : VS) (j : Nat) : VS :=
  if (f_X1_isFilled (vH S) (nI j)) = 0 then S else
  (jT S (vF (vH S) j))
set_option maxHeartbeats 4000000 in
set_option maxRecDepth 100000 in
theorem c_X1_giveBack (l : Launch) (G : GG) (a b : Nat) (S : VS) (j : Nat) (hd : b + 9 ≤ a ∨ a + 21 ≤ b) (hj2 : j < 2) : Met l yX1_giveBack wsX1_giveBack ({ frames := 3, cells := 0, slots := 0, locals := 60 }) (PcH G [.ref a, .int (nI j), .ref b] (Slt2 G a b S)) (QM none (Slt2 G a b (h_X1_giveBack S j)) (blkh a 21 b)) 0 0 (blkh a 21 b) := by
  refine metH (cc := cX1_giveBack) (maxL := 3) (ret := none) (by decide) rfl ?_
  intro p e s m below meth cd hx hb hr hml hown hts hlocks hP hO
  have hin1 : ∀ w ∈ u_ws RX1 TX1 2, w ∈ wsX1_giveBack := by decide +kernel
  have hf_11 := hts (.fieldLink RX1 11 "CurbCars$SaveSlots" "kept" "[LCurbCars$Street;") (by decide +kernel)
  have hA : ∀ q, (blkh a 21 b) q → (blkh a 21 b) q := fun _ h => h
  have hS : va_S (blkh a 21 b) s.heap s.heap [] := va_S.rf
  have hl := lv_entry ([.ref a, .int (nI j), .ref b]) (n := 3) (Nat.le_of_ble_eq_true rfl)
  rw [lg_entry_eq]
  generalize (lg_sl ([.ref a, .int (nI j), .ref b]) ++ List.replicate (3 - (lg_sl ([.ref a, .int (nI j), .ref b])).length) Slot.unset).toArray = ls at hl ⊢
  have hl : lv_has ls 3 [(0, .ref a), (1, .int (nI j)), (2, .ref b)] := hl
  refine lv_aload_n hx hb dX1_giveBack_0 rfl (lv_at hl 2 rfl) ?_
  refine lv_ifnull hx hb dX1_giveBack_1 ?_
  refine lv_aload_n hx hb dX1_giveBack_4 rfl (lv_at hl 0 rfl) ?_
  refine lv_iload_n hx hb dX1_giveBack_5 rfl (lv_at hl 1 rfl) ?_
  refine cl_pi (rV (As := [.int (nI j)]) (rest := []) ⟨hx, hb, hml, hown, hts⟩ (c_X1_isFilled l G a (vH S) (nI j)) (cwV 1 hts gX1_giveBack_X1_isFilled rfl rfl rfl (by decide +kernel) ⟨Nat.le_of_ble_eq_true rfl, Nat.le_of_ble_eq_true rfl⟩) (sv_recv hO hP) (P_app.mp hP).1 hO rfl hl.1 (Nat.le_of_ble_eq_true rfl) dX1_giveBack_6 ⟨Nat.le_of_ble_eq_true rfl, Nat.le_of_ble_eq_true rfl⟩) ?_
  refine lv_if_eq (tgt := 24) hx hb dX1_giveBack_9 (by decide) (fun c_1 => ?_) (fun c_1 => ?_)
  · have hE : h_X1_giveBack S j = S := (by rw [h_X1_giveBack, if_pos c_1])
    exact W.vret hx hb hr (fun t ht hW => ⟨rfl, by rw [ht, hE]; exact hP, hS.F ht⟩) hS.2.2 dX1_giveBack_24
  · refine lv_aload_n hx hb dX1_giveBack_12 rfl (lv_at hl 2 rfl) ?_
    refine lv_aload_n hx hb dX1_giveBack_13 rfl (lv_at hl 0 rfl) ?_
    refine va_get (D := G.1) (ci := 1) (v := .ref (a + 1)) (C := RX1) (T := TX1) (N := 2) hx hb hts hin1 hown hO.1 hP 0 rfl rfl 0 (by decide) hf_11 (fun _ h9 => h9) rfl dX1_giveBack_14 ?_
    refine lv_iload_n hx hb dX1_giveBack_17 rfl (lv_at hl 1 rfl) ?_
    refine cl_pr (rSN (As := [.ref (a + 1), .int (nI j)]) (rest := [.ref b]) ⟨hx, hb, hml, hown, hts⟩ (c_X6_streetOf l G (a + 1) (a + 3) 2 j hj2 (by decide)) ⟨va_cnB 2 hts gX1_giveBack_X6_streetOf_n22 rfl rfl rfl (hO.2 _ (List.mem_of_getElem? (i := 73) rfl)) (hts (.initialized RX6) (by decide +kernel)) (by decide +kernel) ⟨Nat.le_of_ble_eq_true rfl, Nat.le_of_ble_eq_true rfl⟩, hts (.static yX6_streetOf) (by decide +kernel), trivial⟩ (va_P.sub hP [1] rfl) hO rfl hl.1 (Nat.le_of_ble_eq_true rfl) dX1_giveBack_18 ⟨Nat.le_of_ble_eq_true rfl, Nat.le_of_ble_eq_true rfl⟩) ?_
    refine cl_mv (rVN (As := [.ref (a + 3 + 9 * j)]) (rest := []) ⟨hx, hb, hml, hown, hts⟩ (c_X4_copyFrom l G b (a + 3 + 9 * j) (vT S) (vF (vH S) j) (by omega)) ⟨va_cnB 1 hts gX1_giveBack_X4_copyFrom_n26 rfl rfl rfl (hO.2 _ (List.mem_of_getElem? (i := 74) rfl)) (hts (.initialized RX4) (by decide +kernel)) (by decide +kernel) ⟨Nat.le_of_ble_eq_true rfl, Nat.le_of_ble_eq_true rfl⟩, hts (.instanceMethod yX4_copyFrom) (by decide +kernel), hts (.selects RX4 yX4_copyFrom yX4_copyFrom) (by decide +kernel)⟩ (st_recv hO (P_app.mp (sv2_row' hj2 hP)).1) (sv2_row' hj2 hP) hO rfl hl.1 (Nat.le_of_ble_eq_true rfl) dX1_giveBack_21 ⟨Nat.le_of_ble_eq_true rfl, Nat.le_of_ble_eq_true rfl⟩) hS (fun q h => hA q (by simp only [blkh, blk2, blk] at *; omega)) (fun H locs hP1 hz hk hS => ?_)
    have hP : Slt2 G a b (jT S (vF (vH S) j)) H := sv2_get hj2 hd hP hP1 hk
    have hE : h_X1_giveBack S j = (jT S (vF (vH S) j)) := (by rw [h_X1_giveBack, if_neg c_1])
    exact W.vret hx hb hr (fun t ht hW => ⟨rfl, by rw [ht, hE]; exact hP, hS.F ht⟩) hS.2.2 dX1_giveBack_24
