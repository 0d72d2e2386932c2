def h_X2_comesAsTold (S : St) (g : Int32) : Int32 × St :=
  if (g - g / 100 * 100) ≤ 1 then (if ((h_X4_arrive S ((g / 10000) - (g / 10000) / 10 * 10) ((g / 100) - (g / 100) / 100 * 100)).1) = (-1) then (0, (h_X4_arrive S ((g / 10000) - (g / 10000) / 10 * 10) ((g / 100) - (g / 100) / 100 * 100)).2) else
    if (g - g / 100 * 100) = 1 then (if (f_X4_isParked ((h_X4_arrive S ((g / 10000) - (g / 10000) / 10 * 10) ((g / 100) - (g / 100) / 100 * 100)).2) ((h_X4_arrive S ((g / 10000) - (g / 10000) / 10 * 10) ((g / 100) - (g / 100) / 100 * 100)).1)) = 1 then (1, (h_X4_arrive S ((g / 10000) - (g / 10000) / 10 * 10) ((g / 100) - (g / 100) / 100 * 100)).2) else
      (0, (h_X4_arrive S ((g / 10000) - (g / 10000) / 10 * 10) ((g / 100) - (g / 100) / 100 * 100)).2)) else
    if (f_X4_isParked ((h_X4_arrive S ((g / 10000) - (g / 10000) / 10 * 10) ((g / 100) - (g / 100) / 100 * 100)).2) ((h_X4_arrive S ((g / 10000) - (g / 10000) / 10 * 10) ((g / 100) - (g / 100) / 100 * 100)).1)) = 0 then (1, (h_X4_arrive S ((g / 10000) - (g / 10000) / 10 * 10) ((g / 100) - (g / 100) / 100 * 100)).2) else
    (0, (h_X4_arrive S ((g / 10000) - (g / 10000) / 10 * 10) ((g / 100) - (g / 100) / 100 * 100)).2)) else
  (0, S)
set_option maxHeartbeats 4000000 in
set_option maxRecDepth 100000 in
theorem c_X2_comesAsTold (l : Launch) (G : GG) (a : Nat) (S : St) (g : Int32) : Met l yX2_comesAsTold wsX2_comesAsTold ({ frames := 4, cells := 0, slots := 0, locals := 94 }) (PcH G [.int g, .ref a] (Str G a S)) (QM (some (.int ((h_X2_comesAsTold S g).1))) (Str G a ((h_X2_comesAsTold S g).2)) (blk a (a + 9))) 0 0 (blk a (a + 9)) := by
  refine metH (cc := cX2_comesAsTold) (maxL := 4) (ret := (some .boolean)) (by decide) rfl ?_
  intro p e s m below meth cd hx hb hr hml hown hts hlocks hP hO
  have hA : ∀ q, (blk a (a + 9)) q → (blk a (a + 9)) q := fun _ h => h
  have hS : va_S (blk a (a + 9)) s.heap s.heap [] := va_S.rf
  have hl := lv_entry ([.int g, .ref a]) (n := 4) (Nat.le_of_ble_eq_true rfl)
  rw [lg_entry_eq]
  generalize (lg_sl ([.int g, .ref a]) ++ List.replicate (4 - (lg_sl ([.int g, .ref a])).length) Slot.unset).toArray = ls at hl ⊢
  have hl : lv_has ls 4 [(0, .int g), (1, .ref a)] := hl
  refine lv_iload_n hx hb dX2_comesAsTold_0 rfl (lv_at hl 0 rfl) ?_
  refine lv_bipush (v := 100) hx hb dX2_comesAsTold_1 (by decide) ?_
  refine lv_irem hx hb dX2_comesAsTold_3 (by decide) ?_
  refine lv_istore_n (lv' := [(2, .int (g - g / 100 * 100)), (0, .int g), (1, .ref a)]) hx hb dX2_comesAsTold_4 rfl hl (by decide) rfl (fun ls hl => ?_)
  refine lv_iload_n hx hb dX2_comesAsTold_5 rfl (lv_at hl 0 rfl) ?_
  refine lv_iconst (v := 1) hx hb dX2_comesAsTold_6 (by decide) ?_
  refine lv_icmp_le (tgt := 12) hx hb dX2_comesAsTold_7 (by decide) (fun c_1 => ?_) (fun c_1 => ?_)
  · refine lv_aload_n hx hb dX2_comesAsTold_12 rfl (lv_at hl 2 rfl) ?_
    refine lv_iload_n hx hb dX2_comesAsTold_13 rfl (lv_at hl 1 rfl) ?_
    refine lv_sipush (v := 10000) hx hb dX2_comesAsTold_14 (by decide) ?_
    refine lv_idiv hx hb dX2_comesAsTold_17 (by decide) ?_
    refine lv_bipush (v := 10) hx hb dX2_comesAsTold_18 (by decide) ?_
    refine lv_irem hx hb dX2_comesAsTold_20 (by decide) ?_
    refine lv_iload_n hx hb dX2_comesAsTold_21 rfl (lv_at hl 1 rfl) ?_
    refine lv_bipush (v := 100) hx hb dX2_comesAsTold_22 (by decide) ?_
    refine lv_idiv hx hb dX2_comesAsTold_24 (by decide) ?_
    refine lv_bipush (v := 100) hx hb dX2_comesAsTold_25 (by decide) ?_
    refine lv_irem hx hb dX2_comesAsTold_27 (by decide) ?_
    refine cl_mi (rVN (As := [.int ((g / 10000) - (g / 10000) / 10 * 10), .int ((g / 100) - (g / 100) / 100 * 100)]) (rest := []) ⟨hx, hb, hml, hown, hts⟩ (c_X4_arrive l G a S ((g / 10000) - (g / 10000) / 10 * 10) ((g / 100) - (g / 100) / 100 * 100)) ⟨va_cnB 2 hts gX2_comesAsTold_X4_arrive_n57 rfl rfl rfl (hO.2 _ (List.mem_of_getElem? (i := 80) rfl)) (hts (.initialized RX4) (by decide +kernel)) (by decide +kernel) ⟨Nat.le_of_ble_eq_true rfl, Nat.le_of_ble_eq_true rfl⟩, hts (.instanceMethod yX4_arrive) (by decide +kernel), hts (.selects RX4 yX4_arrive yX4_arrive) (by decide +kernel)⟩ (st_recv hO hP) hP hO rfl hl.1 (Nat.le_of_ble_eq_true rfl) dX2_comesAsTold_28 ⟨Nat.le_of_ble_eq_true rfl, Nat.le_of_ble_eq_true rfl⟩) hS hA (fun H locs hP1 hz hk hS => ?_)
    have hP : Str G a ((h_X4_arrive S ((g / 10000) - (g / 10000) / 10 * 10) ((g / 100) - (g / 100) / 100 * 100)).2) H := hP1
    refine lv_istore_n (lv' := [(3, .int ((h_X4_arrive S ((g / 10000) - (g / 10000) / 10 * 10) ((g / 100) - (g / 100) / 100 * 100)).1)), (2, .int (g - g / 100 * 100)), (0, .int g), (1, .ref a)]) hx hb dX2_comesAsTold_31 rfl hl (by decide) rfl (fun ls hl => ?_)
    refine lv_iload_n hx hb dX2_comesAsTold_32 rfl (lv_at hl 0 rfl) ?_
    refine lv_iconst (v := -1) hx hb dX2_comesAsTold_33 (by decide) ?_
    refine lv_icmp_eq (tgt := 59) hx hb dX2_comesAsTold_34 (by decide) (fun c_2 => ?_) (fun c_2 => ?_)
    · refine lv_iconst (v := 0) hx hb dX2_comesAsTold_59 (by decide) ?_
      have hE : h_X2_comesAsTold S g = (0, (h_X4_arrive S ((g / 10000) - (g / 10000) / 10 * 10) ((g / 100) - (g / 100) / 100 * 100)).2) := (by rw [h_X2_comesAsTold, if_pos c_1, if_pos c_2])
      have hE2 := snd_of hE
      exact W.zret (ty := .boolean) hx hb hr rfl (fun t ht hW => ⟨by rw [fst_of hE], by rw [ht, hE2]; exact hP, hS.F ht⟩) hS.2.2 dX2_comesAsTold_60
    · refine lv_aload_n hx hb dX2_comesAsTold_37 rfl (lv_at hl 3 rfl) ?_
      refine lv_iload_n hx hb dX2_comesAsTold_38 rfl (lv_at hl 0 rfl) ?_
      refine cl_pi (rVN (As := [.int ((h_X4_arrive S ((g / 10000) - (g / 10000) / 10 * 10) ((g / 100) - (g / 100) / 100 * 100)).1)]) (rest := []) ⟨hx, hb, hml, hown, hts⟩ (c_X4_isParked l G a ((h_X4_arrive S ((g / 10000) - (g / 10000) / 10 * 10) ((g / 100) - (g / 100) / 100 * 100)).2) ((h_X4_arrive S ((g / 10000) - (g / 10000) / 10 * 10) ((g / 100) - (g / 100) / 100 * 100)).1)) ⟨va_cnB 1 hts gX2_comesAsTold_X4_isParked_n60 rfl rfl rfl (hO.2 _ (List.mem_of_getElem? (i := 81) rfl)) (hts (.initialized RX4) (by decide +kernel)) (by decide +kernel) ⟨Nat.le_of_ble_eq_true rfl, Nat.le_of_ble_eq_true rfl⟩, hts (.instanceMethod yX4_isParked) (by decide +kernel), hts (.selects RX4 yX4_isParked yX4_isParked) (by decide +kernel)⟩ (st_recv hO hP) hP hO rfl hl.1 (Nat.le_of_ble_eq_true rfl) dX2_comesAsTold_39 ⟨Nat.le_of_ble_eq_true rfl, Nat.le_of_ble_eq_true rfl⟩) ?_
      refine lv_iload_n hx hb dX2_comesAsTold_42 rfl (lv_at hl 1 rfl) ?_
      refine lv_iconst (v := 1) hx hb dX2_comesAsTold_43 (by decide) ?_
      refine lv_icmp_ne (tgt := 51) hx hb dX2_comesAsTold_44 (by decide) (fun c_3 => ?_) (fun c_3 => ?_)
      · refine lv_iconst (v := 0) hx hb dX2_comesAsTold_51 (by decide) ?_
        refine lv_icmp_ne (tgt := 59) hx hb dX2_comesAsTold_52 (by decide) (fun c_4 => ?_) (fun c_4 => ?_)
        · refine lv_iconst (v := 0) hx hb dX2_comesAsTold_59 (by decide) ?_
          have hE : h_X2_comesAsTold S g = (0, (h_X4_arrive S ((g / 10000) - (g / 10000) / 10 * 10) ((g / 100) - (g / 100) / 100 * 100)).2) := (by rw [h_X2_comesAsTold, if_pos c_1, if_neg c_2, if_neg c_3, if_neg c_4])
          have hE2 := snd_of hE
          exact W.zret (ty := .boolean) hx hb hr rfl (fun t ht hW => ⟨by rw [fst_of hE], by rw [ht, hE2]; exact hP, hS.F ht⟩) hS.2.2 dX2_comesAsTold_60
        · refine lv_iconst (v := 1) hx hb dX2_comesAsTold_55 (by decide) ?_
          refine lv_goto (tgt := 60) hx hb dX2_comesAsTold_56 (by decide) ?_
          have hE : h_X2_comesAsTold S g = (1, (h_X4_arrive S ((g / 10000) - (g / 10000) / 10 * 10) ((g / 100) - (g / 100) / 100 * 100)).2) := (by rw [h_X2_comesAsTold, if_pos c_1, if_neg c_2, if_neg c_3, if_pos c_4])
          have hE2 := snd_of hE
          exact W.zret (ty := .boolean) hx hb hr rfl (fun t ht hW => ⟨by rw [fst_of hE], by rw [ht, hE2]; exact hP, hS.F ht⟩) hS.2.2 dX2_comesAsTold_60
      · refine lv_iconst (v := 1) hx hb dX2_comesAsTold_47 (by decide) ?_
        refine lv_goto (tgt := 52) hx hb dX2_comesAsTold_48 (by decide) ?_
        refine lv_icmp_ne (tgt := 59) hx hb dX2_comesAsTold_52 (by decide) (fun c_5 => ?_) (fun c_5 => ?_)
        · refine lv_iconst (v := 0) hx hb dX2_comesAsTold_59 (by decide) ?_
          have hE : h_X2_comesAsTold S g = (0, (h_X4_arrive S ((g / 10000) - (g / 10000) / 10 * 10) ((g / 100) - (g / 100) / 100 * 100)).2) := (by rw [h_X2_comesAsTold, if_pos c_1, if_neg c_2, if_pos c_3, if_neg c_5])
          have hE2 := snd_of hE
          exact W.zret (ty := .boolean) hx hb hr rfl (fun t ht hW => ⟨by rw [fst_of hE], by rw [ht, hE2]; exact hP, hS.F ht⟩) hS.2.2 dX2_comesAsTold_60
        · refine lv_iconst (v := 1) hx hb dX2_comesAsTold_55 (by decide) ?_
          refine lv_goto (tgt := 60) hx hb dX2_comesAsTold_56 (by decide) ?_
          have hE : h_X2_comesAsTold S g = (1, (h_X4_arrive S ((g / 10000) - (g / 10000) / 10 * 10) ((g / 100) - (g / 100) / 100 * 100)).2) := (by rw [h_X2_comesAsTold, if_pos c_1, if_neg c_2, if_pos c_3, if_pos c_5])
          have hE2 := snd_of hE
          exact W.zret (ty := .boolean) hx hb hr rfl (fun t ht hW => ⟨by rw [fst_of hE], by rw [ht, hE2]; exact hP, hS.F ht⟩) hS.2.2 dX2_comesAsTold_60
  · refine lv_iconst (v := 0) hx hb dX2_comesAsTold_10 (by decide) ?_
    have hE : h_X2_comesAsTold S g = (0, S) := (by rw [h_X2_comesAsTold, if_neg c_1])
    have hE2 := snd_of hE
    exact W.zret (ty := .boolean) hx hb hr rfl (fun t ht hW => ⟨by rw [fst_of hE], by rw [ht, hE2]; exact hP, hS.F ht⟩) hS.2.2 dX2_comesAsTold_11

theorem b_h_X2_comesAsTold (S : St) (g : Int32) : (h_X2_comesAsTold S g).1 = 0 ∨ (h_X2_comesAsTold S g).1 = 1 := by
  unfold h_X2_comesAsTold
  repeat' split
  all_goals first | exact Or.inl rfl | exact Or.inr rfl

def h_X2_succeeds (S : St) (g : Int32) : Int32 × St :=
  if (g / 100000) = 1 then ((h_X2_comesAsTold S g).1, (h_X2_comesAsTold S g).2) else
  if (g / 100000) = 2 then (if (g - g / 1000 * 1000) = 0 then (if ((h_X4_depart S ((g / 1000) - (g / 1000) / 100 * 100) 2).1) = (-1) then (0, (h_X4_depart S ((g / 1000) - (g / 1000) / 100 * 100) 2).2) else
      (1, (h_X4_depart S ((g / 1000) - (g / 1000) / 100 * 100) 2).2)) else
    (0, S)) else
  if (g / 100000) = 3 then (if (g - g / 10 * 10) = 0 then (if ((h_X4_shift S ((g / 1000) - (g / 1000) / 100 * 100) ((g / 10) - (g / 10) / 100 * 100)).1) = (-1) then (0, (h_X4_shift S ((g / 1000) - (g / 1000) / 100 * 100) ((g / 10) - (g / 10) / 100 * 100)).2) else
      (1, (h_X4_shift S ((g / 1000) - (g / 1000) / 100 * 100) ((g / 10) - (g / 10) / 100 * 100)).2)) else
    (0, S)) else
  if (g / 100000) = 4 then (if ((g / 100) - (g / 100) / 1000 * 1000) = 0 then (if ((h_X4_passMinutes S (g - g / 100 * 100)).1) = (-1) then (0, (h_X4_passMinutes S (g - g / 100 * 100)).2) else
      (1, (h_X4_passMinutes S (g - g / 100 * 100)).2)) else
    (0, S)) else
  if (g / 100000) = 5 then (if (((g / 1000) - (g / 1000) / 100 * 100) - ((g / 1000) - (g / 1000) / 100 * 100) / 10 * 10) = 0 then (if (g - g / 10 * 10) = 0 then (if ((h_X4_changeSetting S ((g / 10000) - (g / 10000) / 10 * 10) ((g / 10) - (g / 10) / 100 * 100)).1) = (-1) then (0, (h_X4_changeSetting S ((g / 10000) - (g / 10000) / 10 * 10) ((g / 10) - (g / 10) / 100 * 100)).2) else
        (1, (h_X4_changeSetting S ((g / 10000) - (g / 10000) / 10 * 10) ((g / 10) - (g / 10) / 100 * 100)).2)) else
      (0, S)) else
    (0, S)) else
  if (g / 100000) = 6 then (if ((g / 10) - (g / 10) / 100 * 100) = 0 then (if 1 < (g - g / 10 * 10) then (0, S) else
      if (g - g / 10 * 10) = 1 then (if ((h_X4_putHydrant S ((g / 1000) - (g / 1000) / 100 * 100) 1).1) = (-1) then (0, (h_X4_putHydrant S ((g / 1000) - (g / 1000) / 100 * 100) 1).2) else
        (1, (h_X4_putHydrant S ((g / 1000) - (g / 1000) / 100 * 100) 1).2)) else
      if ((h_X4_putHydrant S ((g / 1000) - (g / 1000) / 100 * 100) 0).1) = (-1) then (0, (h_X4_putHydrant S ((g / 1000) - (g / 1000) / 100 * 100) 0).2) else
      (1, (h_X4_putHydrant S ((g / 1000) - (g / 1000) / 100 * 100) 0).2)) else
    (0, S)) else
  if (g / 100000) = 7 then (if ((g / 10) - (g / 10) / 1000 * 1000) = 0 then (if (f_X6_isLength ((g / 10000) - (g / 10000) / 10 * 10)) = 0 then (0, S) else
      if (f_X4_reasonAgainst S ((g / 10000) - (g / 10000) / 10 * 10)) = (g - g / 10 * 10) then (1, S) else
      (0, S)) else
    (0, S)) else
  if (g / 100000) = 8 then (if ((g / 10) - (g / 10) / 100 * 100) = 0 then (if (f_X4_isCar S ((g / 1000) - (g / 1000) / 100 * 100)) = 0 then (0, S) else
      if (f_X6_get 40 (sT S) ((g / 1000) - (g / 1000) / 100 * 100)) = (g - g / 10 * 10) then (1, S) else
      (0, S)) else
    (0, S)) else
  if (g / 100000) = 9 then (if ((g / 100) - (g / 100) / 100 * 100) = 0 then (if (f_X6_isLength ((g / 10000) - (g / 10000) / 10 * 10)) = 0 then (0, S) else
      if (f_X4_fittingByGaps S ((g / 10000) - (g / 10000) / 10 * 10)) < (g - g / 100 * 100) then (0, S) else
      (1, S)) else
    (0, S)) else
  (0, S)
set_option maxHeartbeats 4000000 in
set_option maxRecDepth 100000 in
theorem c_X2_succeeds (l : Launch) (G : GG) (a : Nat) (S : St) (g : Int32) : Met l yX2_succeeds wsX2_succeeds ({ frames := 5, cells := 0, slots := 0, locals := 117 }) (PcH G [.int g, .ref a] (Str G a S)) (QM (some (.int ((h_X2_succeeds S g).1))) (Str G a ((h_X2_succeeds S g).2)) (blk a (a + 9))) 0 0 (blk a (a + 9)) := by
  refine metH (cc := cX2_succeeds) (maxL := 7) (ret := (some .boolean)) (by decide) rfl ?_
  intro p e s m below meth cd hx hb hr hml hown hts hlocks hP hO
  have hin4 : ∀ w ∈ u_ws RX4 TX4 14, w ∈ wsX2_succeeds := by decide +kernel
  have hA : ∀ q, (blk a (a + 9)) q → (blk a (a + 9)) q := fun _ h => h
  have hS : va_S (blk a (a + 9)) s.heap s.heap [] := va_S.rf
  have hl := lv_entry ([.int g, .ref a]) (n := 7) (Nat.le_of_ble_eq_true rfl)
  rw [lg_entry_eq]
  generalize (lg_sl ([.int g, .ref a]) ++ List.replicate (7 - (lg_sl ([.int g, .ref a])).length) Slot.unset).toArray = ls at hl ⊢
  have hl : lv_has ls 7 [(0, .int g), (1, .ref a)] := hl
  refine lv_aload_n hx hb dX2_succeeds_0 rfl (lv_at hl 1 rfl) ?_
  refine lv_ifnonnull (tgt := 6) hx hb dX2_succeeds_1 (by decide) ?_
  refine lv_iload_n hx hb dX2_succeeds_6 rfl (lv_at hl 0 rfl) ?_
  refine lv_sipush (v := 10000) hx hb dX2_succeeds_7 (by decide) ?_
  refine lv_idiv hx hb dX2_succeeds_10 (by decide) ?_
  refine lv_bipush (v := 10) hx hb dX2_succeeds_11 (by decide) ?_
  refine lv_irem hx hb dX2_succeeds_13 (by decide) ?_
  refine lv_istore_n (lv' := [(2, .int ((g / 10000) - (g / 10000) / 10 * 10)), (0, .int g), (1, .ref a)]) hx hb dX2_succeeds_14 rfl hl (by decide) rfl (fun ls hl => ?_)
  refine lv_iload_n hx hb dX2_succeeds_15 rfl (lv_at hl 1 rfl) ?_
  refine lv_sipush (v := 1000) hx hb dX2_succeeds_16 (by decide) ?_
  refine lv_idiv hx hb dX2_succeeds_19 (by decide) ?_
  refine lv_bipush (v := 100) hx hb dX2_succeeds_20 (by decide) ?_
  refine lv_irem hx hb dX2_succeeds_22 (by decide) ?_
  refine lv_istore_n (lv' := [(3, .int ((g / 1000) - (g / 1000) / 100 * 100)), (2, .int ((g / 10000) - (g / 10000) / 10 * 10)), (0, .int g), (1, .ref a)]) hx hb dX2_succeeds_23 rfl hl (by decide) rfl (fun ls hl => ?_)
  refine lv_iload_n hx hb dX2_succeeds_24 rfl (lv_at hl 2 rfl) ?_
  refine lv_bipush (v := 10) hx hb dX2_succeeds_25 (by decide) ?_
  refine lv_idiv hx hb dX2_succeeds_27 (by decide) ?_
  refine lv_bipush (v := 100) hx hb dX2_succeeds_28 (by decide) ?_
  refine lv_irem hx hb dX2_succeeds_30 (by decide) ?_
  refine lv_istore (lv' := [(4, .int ((g / 10) - (g / 10) / 100 * 100)), (3, .int ((g / 1000) - (g / 1000) / 100 * 100)), (2, .int ((g / 10000) - (g / 10000) / 10 * 10)), (0, .int g), (1, .ref a)]) hx hb dX2_succeeds_31 hl (by decide) rfl (fun ls hl => ?_)
  refine lv_iload_n hx hb dX2_succeeds_33 rfl (lv_at hl 3 rfl) ?_
  refine lv_bipush (v := 100) hx hb dX2_succeeds_34 (by decide) ?_
  refine lv_irem hx hb dX2_succeeds_36 (by decide) ?_
  refine lv_istore (lv' := [(5, .int (g - g / 100 * 100)), (4, .int ((g / 10) - (g / 10) / 100 * 100)), (3, .int ((g / 1000) - (g / 1000) / 100 * 100)), (2, .int ((g / 10000) - (g / 10000) / 10 * 10)), (0, .int g), (1, .ref a)]) hx hb dX2_succeeds_37 hl (by decide) rfl (fun ls hl => ?_)
  refine lv_iload_n hx hb dX2_succeeds_39 rfl (lv_at hl 4 rfl) ?_
  refine lv_bipush (v := 10) hx hb dX2_succeeds_40 (by decide) ?_
  refine lv_irem hx hb dX2_succeeds_42 (by decide) ?_
  refine lv_istore (lv' := [(6, .int (g - g / 10 * 10)), (5, .int (g - g / 100 * 100)), (4, .int ((g / 10) - (g / 10) / 100 * 100)), (3, .int ((g / 1000) - (g / 1000) / 100 * 100)), (2, .int ((g / 10000) - (g / 10000) / 10 * 10)), (0, .int g), (1, .ref a)]) hx hb dX2_succeeds_43 hl (by decide) rfl (fun ls hl => ?_)
  refine lv_iload_n hx hb dX2_succeeds_45 rfl (lv_at hl 5 rfl) ?_
  refine lv_ldc (v := 100000) hx hb hown (hts (.constant RX2 9 (100000)) (by decide +kernel)) dX2_succeeds_46 ?_
  refine lv_idiv hx hb dX2_succeeds_48 (by decide) ?_
  by_cases c_1 : (g / 100000) = 1
  · refine lv_tableIn (off := 51) (tgt := 100) hx hb dX2_succeeds_49 (by rw [c_1]; decide) (by rw [c_1]; decide) (by rw [c_1]; decide +kernel) (by decide) ?_
    refine lv_iload_n hx hb dX2_succeeds_100 rfl (lv_at hl 5 rfl) ?_
    refine lv_aload_n hx hb dX2_succeeds_101 rfl (lv_at hl 6 rfl) ?_
    refine cl_mi (rS (As := [.int g, .ref a]) (rest := []) ⟨hx, hb, hml, hown, hts⟩ (c_X2_comesAsTold l G a S g) (va_cwS 2 hts gX2_succeeds_X2_comesAsTold rfl rfl rfl (by decide +kernel) ⟨Nat.le_of_ble_eq_true rfl, Nat.le_of_ble_eq_true rfl⟩) hP hO rfl hl.1 (Nat.le_of_ble_eq_true rfl) dX2_succeeds_102 ⟨Nat.le_of_ble_eq_true rfl, Nat.le_of_ble_eq_true rfl⟩) hS hA (fun H locs hP1 hz hk hS => ?_)
    have hP : Str G a ((h_X2_comesAsTold S g).2) H := hP1
    have hE : h_X2_succeeds S g = ((h_X2_comesAsTold S g).1, (h_X2_comesAsTold S g).2) := (by rw [h_X2_succeeds, if_pos c_1])
    have hE2 := snd_of hE
    exact W.zret (ty := .boolean) hx hb hr (nar_b (b_h_X2_comesAsTold ..)) (fun t ht hW => ⟨by rw [fst_of hE], by rw [ht, hE2]; exact hP, hS.F ht⟩) hS.2.2 dX2_succeeds_105
  by_cases c_2 : (g / 100000) = 2
  · refine lv_tableIn (off := 57) (tgt := 106) hx hb dX2_succeeds_49 (by rw [c_2]; decide) (by rw [c_2]; decide) (by rw [c_2]; decide +kernel) (by decide) ?_
    refine lv_iload_n hx hb dX2_succeeds_106 rfl (lv_at hl 5 rfl) ?_
    refine lv_sipush (v := 1000) hx hb dX2_succeeds_107 (by decide) ?_
    refine lv_irem hx hb dX2_succeeds_110 (by decide) ?_
    refine lv_if_ne (tgt := 128) hx hb dX2_succeeds_111 (by decide) (fun c_3 => ?_) (fun c_3 => ?_)
    · refine lv_iconst (v := 0) hx hb dX2_succeeds_128 (by decide) ?_
      have hE : h_X2_succeeds S g = (0, S) := (by rw [h_X2_succeeds, if_neg c_1, if_pos c_2, if_neg c_3])
      have hE2 := snd_of hE
      exact W.zret (ty := .boolean) hx hb hr rfl (fun t ht hW => ⟨by rw [fst_of hE], by rw [ht, hE2]; exact hP, hS.F ht⟩) hS.2.2 dX2_succeeds_129
    · refine lv_aload_n hx hb dX2_succeeds_114 rfl (lv_at hl 6 rfl) ?_
      refine lv_iload_n hx hb dX2_succeeds_115 rfl (lv_at hl 3 rfl) ?_
      refine lv_iconst (v := 2) hx hb dX2_succeeds_116 (by decide) ?_
      refine cl_mi (rVN (As := [.int ((g / 1000) - (g / 1000) / 100 * 100), .int 2]) (rest := []) ⟨hx, hb, hml, hown, hts⟩ (c_X4_depart l G a S ((g / 1000) - (g / 1000) / 100 * 100) 2) ⟨va_cnB 2 hts gX2_succeeds_X4_depart_n16 rfl rfl rfl (hO.2 _ (List.mem_of_getElem? (i := 82) rfl)) (hts (.initialized RX4) (by decide +kernel)) (by decide +kernel) ⟨Nat.le_of_ble_eq_true rfl, Nat.le_of_ble_eq_true rfl⟩, hts (.instanceMethod yX4_depart) (by decide +kernel), hts (.selects RX4 yX4_depart yX4_depart) (by decide +kernel)⟩ (st_recv hO hP) hP hO rfl hl.1 (Nat.le_of_ble_eq_true rfl) dX2_succeeds_117 ⟨Nat.le_of_ble_eq_true rfl, Nat.le_of_ble_eq_true rfl⟩) hS hA (fun H locs hP1 hz hk hS => ?_)
      have hP : Str G a ((h_X4_depart S ((g / 1000) - (g / 1000) / 100 * 100) 2).2) H := hP1
      refine lv_iconst (v := -1) hx hb dX2_succeeds_120 (by decide) ?_
      refine lv_icmp_eq (tgt := 128) hx hb dX2_succeeds_121 (by decide) (fun c_4 => ?_) (fun c_4 => ?_)
      · refine lv_iconst (v := 0) hx hb dX2_succeeds_128 (by decide) ?_
        have hE : h_X2_succeeds S g = (0, (h_X4_depart S ((g / 1000) - (g / 1000) / 100 * 100) 2).2) := (by rw [h_X2_succeeds, if_neg c_1, if_pos c_2, if_pos c_3, if_pos c_4])
        have hE2 := snd_of hE
        exact W.zret (ty := .boolean) hx hb hr rfl (fun t ht hW => ⟨by rw [fst_of hE], by rw [ht, hE2]; exact hP, hS.F ht⟩) hS.2.2 dX2_succeeds_129
      · refine lv_iconst (v := 1) hx hb dX2_succeeds_124 (by decide) ?_
        refine lv_goto (tgt := 129) hx hb dX2_succeeds_125 (by decide) ?_
        have hE : h_X2_succeeds S g = (1, (h_X4_depart S ((g / 1000) - (g / 1000) / 100 * 100) 2).2) := (by rw [h_X2_succeeds, if_neg c_1, if_pos c_2, if_pos c_3, if_neg c_4])
        have hE2 := snd_of hE
        exact W.zret (ty := .boolean) hx hb hr rfl (fun t ht hW => ⟨by rw [fst_of hE], by rw [ht, hE2]; exact hP, hS.F ht⟩) hS.2.2 dX2_succeeds_129
  by_cases c_5 : (g / 100000) = 3
  · refine lv_tableIn (off := 81) (tgt := 130) hx hb dX2_succeeds_49 (by rw [c_5]; decide) (by rw [c_5]; decide) (by rw [c_5]; decide +kernel) (by decide) ?_
    refine lv_iload hx hb dX2_succeeds_130 (lv_at hl 0 rfl) ?_
    refine lv_if_ne (tgt := 150) hx hb dX2_succeeds_132 (by decide) (fun c_6 => ?_) (fun c_6 => ?_)
    · refine lv_iconst (v := 0) hx hb dX2_succeeds_150 (by decide) ?_
      have hE : h_X2_succeeds S g = (0, S) := (by rw [h_X2_succeeds, if_neg c_1, if_neg c_2, if_pos c_5, if_neg c_6])
      have hE2 := snd_of hE
      exact W.zret (ty := .boolean) hx hb hr rfl (fun t ht hW => ⟨by rw [fst_of hE], by rw [ht, hE2]; exact hP, hS.F ht⟩) hS.2.2 dX2_succeeds_151
    · refine lv_aload_n hx hb dX2_succeeds_135 rfl (lv_at hl 6 rfl) ?_
      refine lv_iload_n hx hb dX2_succeeds_136 rfl (lv_at hl 3 rfl) ?_
      refine lv_iload hx hb dX2_succeeds_137 (lv_at hl 2 rfl) ?_
      refine cl_mi (rVN (As := [.int ((g / 1000) - (g / 1000) / 100 * 100), .int ((g / 10) - (g / 10) / 100 * 100)]) (rest := []) ⟨hx, hb, hml, hown, hts⟩ (c_X4_shift l G a S ((g / 1000) - (g / 1000) / 100 * 100) ((g / 10) - (g / 10) / 100 * 100)) ⟨va_cnB 2 hts gX2_succeeds_X4_shift_n22 rfl rfl rfl (hO.2 _ (List.mem_of_getElem? (i := 83) rfl)) (hts (.initialized RX4) (by decide +kernel)) (by decide +kernel) ⟨Nat.le_of_ble_eq_true rfl, Nat.le_of_ble_eq_true rfl⟩, hts (.instanceMethod yX4_shift) (by decide +kernel), hts (.selects RX4 yX4_shift yX4_shift) (by decide +kernel)⟩ (st_recv hO hP) hP hO rfl hl.1 (Nat.le_of_ble_eq_true rfl) dX2_succeeds_139 ⟨Nat.le_of_ble_eq_true rfl, Nat.le_of_ble_eq_true rfl⟩) hS hA (fun H locs hP1 hz hk hS => ?_)
      have hP : Str G a ((h_X4_shift S ((g / 1000) - (g / 1000) / 100 * 100) ((g / 10) - (g / 10) / 100 * 100)).2) H := hP1
      refine lv_iconst (v := -1) hx hb dX2_succeeds_142 (by decide) ?_
      refine lv_icmp_eq (tgt := 150) hx hb dX2_succeeds_143 (by decide) (fun c_7 => ?_) (fun c_7 => ?_)
      · refine lv_iconst (v := 0) hx hb dX2_succeeds_150 (by decide) ?_
        have hE : h_X2_succeeds S g = (0, (h_X4_shift S ((g / 1000) - (g / 1000) / 100 * 100) ((g / 10) - (g / 10) / 100 * 100)).2) := (by rw [h_X2_succeeds, if_neg c_1, if_neg c_2, if_pos c_5, if_pos c_6, if_pos c_7])
        have hE2 := snd_of hE
        exact W.zret (ty := .boolean) hx hb hr rfl (fun t ht hW => ⟨by rw [fst_of hE], by rw [ht, hE2]; exact hP, hS.F ht⟩) hS.2.2 dX2_succeeds_151
      · refine lv_iconst (v := 1) hx hb dX2_succeeds_146 (by decide) ?_
        refine lv_goto (tgt := 151) hx hb dX2_succeeds_147 (by decide) ?_
        have hE : h_X2_succeeds S g = (1, (h_X4_shift S ((g / 1000) - (g / 1000) / 100 * 100) ((g / 10) - (g / 10) / 100 * 100)).2) := (by rw [h_X2_succeeds, if_neg c_1, if_neg c_2, if_pos c_5, if_pos c_6, if_neg c_7])
        have hE2 := snd_of hE
        exact W.zret (ty := .boolean) hx hb hr rfl (fun t ht hW => ⟨by rw [fst_of hE], by rw [ht, hE2]; exact hP, hS.F ht⟩) hS.2.2 dX2_succeeds_151
  by_cases c_8 : (g / 100000) = 4
  · refine lv_tableIn (off := 103) (tgt := 152) hx hb dX2_succeeds_49 (by rw [c_8]; decide) (by rw [c_8]; decide) (by rw [c_8]; decide +kernel) (by decide) ?_
    refine lv_iload_n hx hb dX2_succeeds_152 rfl (lv_at hl 5 rfl) ?_
    refine lv_bipush (v := 100) hx hb dX2_succeeds_153 (by decide) ?_
    refine lv_idiv hx hb dX2_succeeds_155 (by decide) ?_
    refine lv_sipush (v := 1000) hx hb dX2_succeeds_156 (by decide) ?_
    refine lv_irem hx hb dX2_succeeds_159 (by decide) ?_
    refine lv_if_ne (tgt := 177) hx hb dX2_succeeds_160 (by decide) (fun c_9 => ?_) (fun c_9 => ?_)
    · refine lv_iconst (v := 0) hx hb dX2_succeeds_177 (by decide) ?_
      have hE : h_X2_succeeds S g = (0, S) := (by rw [h_X2_succeeds, if_neg c_1, if_neg c_2, if_neg c_5, if_pos c_8, if_neg c_9])
      have hE2 := snd_of hE
      exact W.zret (ty := .boolean) hx hb hr rfl (fun t ht hW => ⟨by rw [fst_of hE], by rw [ht, hE2]; exact hP, hS.F ht⟩) hS.2.2 dX2_succeeds_178
    · refine lv_aload_n hx hb dX2_succeeds_163 rfl (lv_at hl 6 rfl) ?_
      refine lv_iload hx hb dX2_succeeds_164 (lv_at hl 1 rfl) ?_
      refine cl_mi (rVN (As := [.int (g - g / 100 * 100)]) (rest := []) ⟨hx, hb, hml, hown, hts⟩ (c_X4_passMinutes l G a S (g - g / 100 * 100)) ⟨va_cnB 1 hts gX2_succeeds_X4_passMinutes_n25 rfl rfl rfl (hO.2 _ (List.mem_of_getElem? (i := 84) rfl)) (hts (.initialized RX4) (by decide +kernel)) (by decide +kernel) ⟨Nat.le_of_ble_eq_true rfl, Nat.le_of_ble_eq_true rfl⟩, hts (.instanceMethod yX4_passMinutes) (by decide +kernel), hts (.selects RX4 yX4_passMinutes yX4_passMinutes) (by decide +kernel)⟩ (st_recv hO hP) hP hO rfl hl.1 (Nat.le_of_ble_eq_true rfl) dX2_succeeds_166 ⟨Nat.le_of_ble_eq_true rfl, Nat.le_of_ble_eq_true rfl⟩) hS hA (fun H locs hP1 hz hk hS => ?_)
      have hP : Str G a ((h_X4_passMinutes S (g - g / 100 * 100)).2) H := hP1
      refine lv_iconst (v := -1) hx hb dX2_succeeds_169 (by decide) ?_
      refine lv_icmp_eq (tgt := 177) hx hb dX2_succeeds_170 (by decide) (fun c_10 => ?_) (fun c_10 => ?_)
      · refine lv_iconst (v := 0) hx hb dX2_succeeds_177 (by decide) ?_
        have hE : h_X2_succeeds S g = (0, (h_X4_passMinutes S (g - g / 100 * 100)).2) := (by rw [h_X2_succeeds, if_neg c_1, if_neg c_2, if_neg c_5, if_pos c_8, if_pos c_9, if_pos c_10])
        have hE2 := snd_of hE
        exact W.zret (ty := .boolean) hx hb hr rfl (fun t ht hW => ⟨by rw [fst_of hE], by rw [ht, hE2]; exact hP, hS.F ht⟩) hS.2.2 dX2_succeeds_178
      · refine lv_iconst (v := 1) hx hb dX2_succeeds_173 (by decide) ?_
        refine lv_goto (tgt := 178) hx hb dX2_succeeds_174 (by decide) ?_
        have hE : h_X2_succeeds S g = (1, (h_X4_passMinutes S (g - g / 100 * 100)).2) := (by rw [h_X2_succeeds, if_neg c_1, if_neg c_2, if_neg c_5, if_pos c_8, if_pos c_9, if_neg c_10])
        have hE2 := snd_of hE
        exact W.zret (ty := .boolean) hx hb hr rfl (fun t ht hW => ⟨by rw [fst_of hE], by rw [ht, hE2]; exact hP, hS.F ht⟩) hS.2.2 dX2_succeeds_178
  by_cases c_11 : (g / 100000) = 5
  · refine lv_tableIn (off := 130) (tgt := 179) hx hb dX2_succeeds_49 (by rw [c_11]; decide) (by rw [c_11]; decide) (by rw [c_11]; decide +kernel) (by decide) ?_
    refine lv_iload_n hx hb dX2_succeeds_179 rfl (lv_at hl 3 rfl) ?_
    refine lv_bipush (v := 10) hx hb dX2_succeeds_180 (by decide) ?_
    refine lv_irem hx hb dX2_succeeds_182 (by decide) ?_
    refine lv_if_ne (tgt := 206) hx hb dX2_succeeds_183 (by decide) (fun c_12 => ?_) (fun c_12 => ?_)
    · refine lv_iconst (v := 0) hx hb dX2_succeeds_206 (by decide) ?_
      have hE : h_X2_succeeds S g = (0, S) := (by rw [h_X2_succeeds, if_neg c_1, if_neg c_2, if_neg c_5, if_neg c_8, if_pos c_11, if_neg c_12])
      have hE2 := snd_of hE
      exact W.zret (ty := .boolean) hx hb hr rfl (fun t ht hW => ⟨by rw [fst_of hE], by rw [ht, hE2]; exact hP, hS.F ht⟩) hS.2.2 dX2_succeeds_207
    · refine lv_iload hx hb dX2_succeeds_186 (lv_at hl 0 rfl) ?_
      refine lv_if_ne (tgt := 206) hx hb dX2_succeeds_188 (by decide) (fun c_13 => ?_) (fun c_13 => ?_)
      · refine lv_iconst (v := 0) hx hb dX2_succeeds_206 (by decide) ?_
        have hE : h_X2_succeeds S g = (0, S) := (by rw [h_X2_succeeds, if_neg c_1, if_neg c_2, if_neg c_5, if_neg c_8, if_pos c_11, if_pos c_12, if_neg c_13])
        have hE2 := snd_of hE
        exact W.zret (ty := .boolean) hx hb hr rfl (fun t ht hW => ⟨by rw [fst_of hE], by rw [ht, hE2]; exact hP, hS.F ht⟩) hS.2.2 dX2_succeeds_207
      · refine lv_aload_n hx hb dX2_succeeds_191 rfl (lv_at hl 6 rfl) ?_
        refine lv_iload_n hx hb dX2_succeeds_192 rfl (lv_at hl 4 rfl) ?_
        refine lv_iload hx hb dX2_succeeds_193 (lv_at hl 2 rfl) ?_
        refine cl_mi (rVN (As := [.int ((g / 10000) - (g / 10000) / 10 * 10), .int ((g / 10) - (g / 10) / 100 * 100)]) (rest := []) ⟨hx, hb, hml, hown, hts⟩ (c_X4_changeSetting l G a S ((g / 10000) - (g / 10000) / 10 * 10) ((g / 10) - (g / 10) / 100 * 100)) ⟨va_cnB 2 hts gX2_succeeds_X4_changeSetting_n29 rfl rfl rfl (hO.2 _ (List.mem_of_getElem? (i := 85) rfl)) (hts (.initialized RX4) (by decide +kernel)) (by decide +kernel) ⟨Nat.le_of_ble_eq_true rfl, Nat.le_of_ble_eq_true rfl⟩, hts (.instanceMethod yX4_changeSetting) (by decide +kernel), hts (.selects RX4 yX4_changeSetting yX4_changeSetting) (by decide +kernel)⟩ (st_recv hO hP) hP hO rfl hl.1 (Nat.le_of_ble_eq_true rfl) dX2_succeeds_195 ⟨Nat.le_of_ble_eq_true rfl, Nat.le_of_ble_eq_true rfl⟩) hS hA (fun H locs hP1 hz hk hS => ?_)
        have hP : Str G a ((h_X4_changeSetting S ((g / 10000) - (g / 10000) / 10 * 10) ((g / 10) - (g / 10) / 100 * 100)).2) H := hP1
        refine lv_iconst (v := -1) hx hb dX2_succeeds_198 (by decide) ?_
        refine lv_icmp_eq (tgt := 206) hx hb dX2_succeeds_199 (by decide) (fun c_14 => ?_) (fun c_14 => ?_)
        · refine lv_iconst (v := 0) hx hb dX2_succeeds_206 (by decide) ?_
          have hE : h_X2_succeeds S g = (0, (h_X4_changeSetting S ((g / 10000) - (g / 10000) / 10 * 10) ((g / 10) - (g / 10) / 100 * 100)).2) := (by rw [h_X2_succeeds, if_neg c_1, if_neg c_2, if_neg c_5, if_neg c_8, if_pos c_11, if_pos c_12, if_pos c_13, if_pos c_14])
          have hE2 := snd_of hE
          exact W.zret (ty := .boolean) hx hb hr rfl (fun t ht hW => ⟨by rw [fst_of hE], by rw [ht, hE2]; exact hP, hS.F ht⟩) hS.2.2 dX2_succeeds_207
        · refine lv_iconst (v := 1) hx hb dX2_succeeds_202 (by decide) ?_
          refine lv_goto (tgt := 207) hx hb dX2_succeeds_203 (by decide) ?_
          have hE : h_X2_succeeds S g = (1, (h_X4_changeSetting S ((g / 10000) - (g / 10000) / 10 * 10) ((g / 10) - (g / 10) / 100 * 100)).2) := (by rw [h_X2_succeeds, if_neg c_1, if_neg c_2, if_neg c_5, if_neg c_8, if_pos c_11, if_pos c_12, if_pos c_13, if_neg c_14])
          have hE2 := snd_of hE
          exact W.zret (ty := .boolean) hx hb hr rfl (fun t ht hW => ⟨by rw [fst_of hE], by rw [ht, hE2]; exact hP, hS.F ht⟩) hS.2.2 dX2_succeeds_207
  by_cases c_15 : (g / 100000) = 6
  · refine lv_tableIn (off := 159) (tgt := 208) hx hb dX2_succeeds_49 (by rw [c_15]; decide) (by rw [c_15]; decide) (by rw [c_15]; decide +kernel) (by decide) ?_
    refine lv_iload hx hb dX2_succeeds_208 (lv_at hl 2 rfl) ?_
    refine lv_if_ne (tgt := 243) hx hb dX2_succeeds_210 (by decide) (fun c_16 => ?_) (fun c_16 => ?_)
    · refine lv_iconst (v := 0) hx hb dX2_succeeds_243 (by decide) ?_
      have hE : h_X2_succeeds S g = (0, S) := (by rw [h_X2_succeeds, if_neg c_1, if_neg c_2, if_neg c_5, if_neg c_8, if_neg c_11, if_pos c_15, if_neg c_16])
      have hE2 := snd_of hE
      exact W.zret (ty := .boolean) hx hb hr rfl (fun t ht hW => ⟨by rw [fst_of hE], by rw [ht, hE2]; exact hP, hS.F ht⟩) hS.2.2 dX2_succeeds_244
    · refine lv_iload hx hb dX2_succeeds_213 (lv_at hl 0 rfl) ?_
      refine lv_iconst (v := 1) hx hb dX2_succeeds_215 (by decide) ?_
      refine lv_icmp_gt (tgt := 243) hx hb dX2_succeeds_216 (by decide) (fun c_17 => ?_) (fun c_17 => ?_)
      · refine lv_iconst (v := 0) hx hb dX2_succeeds_243 (by decide) ?_
        have hE : h_X2_succeeds S g = (0, S) := (by rw [h_X2_succeeds, if_neg c_1, if_neg c_2, if_neg c_5, if_neg c_8, if_neg c_11, if_pos c_15, if_pos c_16, if_pos c_17])
        have hE2 := snd_of hE
        exact W.zret (ty := .boolean) hx hb hr rfl (fun t ht hW => ⟨by rw [fst_of hE], by rw [ht, hE2]; exact hP, hS.F ht⟩) hS.2.2 dX2_succeeds_244
      · refine lv_aload_n hx hb dX2_succeeds_219 rfl (lv_at hl 6 rfl) ?_
        refine lv_iload_n hx hb dX2_succeeds_220 rfl (lv_at hl 3 rfl) ?_
        refine lv_iload hx hb dX2_succeeds_221 (lv_at hl 0 rfl) ?_
        refine lv_iconst (v := 1) hx hb dX2_succeeds_223 (by decide) ?_
        refine lv_icmp_ne (tgt := 231) hx hb dX2_succeeds_224 (by decide) (fun c_18 => ?_) (fun c_18 => ?_)
        · refine lv_iconst (v := 0) hx hb dX2_succeeds_231 (by decide) ?_
          refine cl_mi (rVN (As := [.int ((g / 1000) - (g / 1000) / 100 * 100), .int 0]) (rest := []) ⟨hx, hb, hml, hown, hts⟩ (c_X4_putHydrant l G a S ((g / 1000) - (g / 1000) / 100 * 100) 0) ⟨va_cnB 2 hts gX2_succeeds_X4_putHydrant_n32 rfl rfl rfl (hO.2 _ (List.mem_of_getElem? (i := 86) rfl)) (hts (.initialized RX4) (by decide +kernel)) (by decide +kernel) ⟨Nat.le_of_ble_eq_true rfl, Nat.le_of_ble_eq_true rfl⟩, hts (.instanceMethod yX4_putHydrant) (by decide +kernel), hts (.selects RX4 yX4_putHydrant yX4_putHydrant) (by decide +kernel)⟩ (st_recv hO hP) hP hO rfl hl.1 (Nat.le_of_ble_eq_true rfl) dX2_succeeds_232 ⟨Nat.le_of_ble_eq_true rfl, Nat.le_of_ble_eq_true rfl⟩) hS hA (fun H locs hP1 hz hk hS => ?_)
          have hP : Str G a ((h_X4_putHydrant S ((g / 1000) - (g / 1000) / 100 * 100) 0).2) H := hP1
          refine lv_iconst (v := -1) hx hb dX2_succeeds_235 (by decide) ?_
          refine lv_icmp_eq (tgt := 243) hx hb dX2_succeeds_236 (by decide) (fun c_19 => ?_) (fun c_19 => ?_)
          · refine lv_iconst (v := 0) hx hb dX2_succeeds_243 (by decide) ?_
            have hE : h_X2_succeeds S g = (0, (h_X4_putHydrant S ((g / 1000) - (g / 1000) / 100 * 100) 0).2) := (by rw [h_X2_succeeds, if_neg c_1, if_neg c_2, if_neg c_5, if_neg c_8, if_neg c_11, if_pos c_15, if_pos c_16, if_neg c_17, if_neg c_18, if_pos c_19])
            have hE2 := snd_of hE
            exact W.zret (ty := .boolean) hx hb hr rfl (fun t ht hW => ⟨by rw [fst_of hE], by rw [ht, hE2]; exact hP, hS.F ht⟩) hS.2.2 dX2_succeeds_244
          · refine lv_iconst (v := 1) hx hb dX2_succeeds_239 (by decide) ?_
            refine lv_goto (tgt := 244) hx hb dX2_succeeds_240 (by decide) ?_
            have hE : h_X2_succeeds S g = (1, (h_X4_putHydrant S ((g / 1000) - (g / 1000) / 100 * 100) 0).2) := (by rw [h_X2_succeeds, if_neg c_1, if_neg c_2, if_neg c_5, if_neg c_8, if_neg c_11, if_pos c_15, if_pos c_16, if_neg c_17, if_neg c_18, if_neg c_19])
            have hE2 := snd_of hE
            exact W.zret (ty := .boolean) hx hb hr rfl (fun t ht hW => ⟨by rw [fst_of hE], by rw [ht, hE2]; exact hP, hS.F ht⟩) hS.2.2 dX2_succeeds_244
        · refine lv_iconst (v := 1) hx hb dX2_succeeds_227 (by decide) ?_
          refine lv_goto (tgt := 232) hx hb dX2_succeeds_228 (by decide) ?_
          refine cl_mi (rVN (As := [.int ((g / 1000) - (g / 1000) / 100 * 100), .int 1]) (rest := []) ⟨hx, hb, hml, hown, hts⟩ (c_X4_putHydrant l G a S ((g / 1000) - (g / 1000) / 100 * 100) 1) ⟨va_cnB 2 hts gX2_succeeds_X4_putHydrant_n32 rfl rfl rfl (hO.2 _ (List.mem_of_getElem? (i := 86) rfl)) (hts (.initialized RX4) (by decide +kernel)) (by decide +kernel) ⟨Nat.le_of_ble_eq_true rfl, Nat.le_of_ble_eq_true rfl⟩, hts (.instanceMethod yX4_putHydrant) (by decide +kernel), hts (.selects RX4 yX4_putHydrant yX4_putHydrant) (by decide +kernel)⟩ (st_recv hO hP) hP hO rfl hl.1 (Nat.le_of_ble_eq_true rfl) dX2_succeeds_232 ⟨Nat.le_of_ble_eq_true rfl, Nat.le_of_ble_eq_true rfl⟩) hS hA (fun H locs hP1 hz hk hS => ?_)
          have hP : Str G a ((h_X4_putHydrant S ((g / 1000) - (g / 1000) / 100 * 100) 1).2) H := hP1
          refine lv_iconst (v := -1) hx hb dX2_succeeds_235 (by decide) ?_
          refine lv_icmp_eq (tgt := 243) hx hb dX2_succeeds_236 (by decide) (fun c_20 => ?_) (fun c_20 => ?_)
          · refine lv_iconst (v := 0) hx hb dX2_succeeds_243 (by decide) ?_
            have hE : h_X2_succeeds S g = (0, (h_X4_putHydrant S ((g / 1000) - (g / 1000) / 100 * 100) 1).2) := (by rw [h_X2_succeeds, if_neg c_1, if_neg c_2, if_neg c_5, if_neg c_8, if_neg c_11, if_pos c_15, if_pos c_16, if_neg c_17, if_pos c_18, if_pos c_20])
            have hE2 := snd_of hE
            exact W.zret (ty := .boolean) hx hb hr rfl (fun t ht hW => ⟨by rw [fst_of hE], by rw [ht, hE2]; exact hP, hS.F ht⟩) hS.2.2 dX2_succeeds_244
          · refine lv_iconst (v := 1) hx hb dX2_succeeds_239 (by decide) ?_
            refine lv_goto (tgt := 244) hx hb dX2_succeeds_240 (by decide) ?_
            have hE : h_X2_succeeds S g = (1, (h_X4_putHydrant S ((g / 1000) - (g / 1000) / 100 * 100) 1).2) := (by rw [h_X2_succeeds, if_neg c_1, if_neg c_2, if_neg c_5, if_neg c_8, if_neg c_11, if_pos c_15, if_pos c_16, if_neg c_17, if_pos c_18, if_neg c_20])
            have hE2 := snd_of hE
            exact W.zret (ty := .boolean) hx hb hr rfl (fun t ht hW => ⟨by rw [fst_of hE], by rw [ht, hE2]; exact hP, hS.F ht⟩) hS.2.2 dX2_succeeds_244
  by_cases c_21 : (g / 100000) = 7
  · refine lv_tableIn (off := 196) (tgt := 245) hx hb dX2_succeeds_49 (by rw [c_21]; decide) (by rw [c_21]; decide) (by rw [c_21]; decide +kernel) (by decide) ?_
    refine lv_iload_n hx hb dX2_succeeds_245 rfl (lv_at hl 5 rfl) ?_
    refine lv_bipush (v := 10) hx hb dX2_succeeds_246 (by decide) ?_
    refine lv_idiv hx hb dX2_succeeds_248 (by decide) ?_
    refine lv_sipush (v := 1000) hx hb dX2_succeeds_249 (by decide) ?_
    refine lv_irem hx hb dX2_succeeds_252 (by decide) ?_
    refine lv_if_ne (tgt := 277) hx hb dX2_succeeds_253 (by decide) (fun c_22 => ?_) (fun c_22 => ?_)
    · refine lv_iconst (v := 0) hx hb dX2_succeeds_277 (by decide) ?_
      have hE : h_X2_succeeds S g = (0, S) := (by rw [h_X2_succeeds, if_neg c_1, if_neg c_2, if_neg c_5, if_neg c_8, if_neg c_11, if_neg c_15, if_pos c_21, if_neg c_22])
      have hE2 := snd_of hE
      exact W.zret (ty := .boolean) hx hb hr rfl (fun t ht hW => ⟨by rw [fst_of hE], by rw [ht, hE2]; exact hP, hS.F ht⟩) hS.2.2 dX2_succeeds_278
    · refine lv_iload_n hx hb dX2_succeeds_256 rfl (lv_at hl 4 rfl) ?_
      refine cl_pi (rSN (As := [.int ((g / 10000) - (g / 10000) / 10 * 10)]) (rest := []) ⟨hx, hb, hml, hown, hts⟩ (c_X6_isLength l G ((g / 10000) - (g / 10000) / 10 * 10)) ⟨va_cnB 1 hts gX2_succeeds_X6_isLength_n36 rfl rfl rfl (hO.2 _ (List.mem_of_getElem? (i := 87) rfl)) (hts (.initialized RX6) (by decide +kernel)) (by decide +kernel) ⟨Nat.le_of_ble_eq_true rfl, Nat.le_of_ble_eq_true rfl⟩, hts (.static yX6_isLength) (by decide +kernel), trivial⟩ trivial hO rfl hl.1 (Nat.le_of_ble_eq_true rfl) dX2_succeeds_257 ⟨Nat.le_of_ble_eq_true rfl, Nat.le_of_ble_eq_true rfl⟩) ?_
      refine lv_if_eq (tgt := 277) hx hb dX2_succeeds_260 (by decide) (fun c_23 => ?_) (fun c_23 => ?_)
      · refine lv_iconst (v := 0) hx hb dX2_succeeds_277 (by decide) ?_
        have hE : h_X2_succeeds S g = (0, S) := (by rw [h_X2_succeeds, if_neg c_1, if_neg c_2, if_neg c_5, if_neg c_8, if_neg c_11, if_neg c_15, if_pos c_21, if_pos c_22, if_pos c_23])
        have hE2 := snd_of hE
        exact W.zret (ty := .boolean) hx hb hr rfl (fun t ht hW => ⟨by rw [fst_of hE], by rw [ht, hE2]; exact hP, hS.F ht⟩) hS.2.2 dX2_succeeds_278
      · refine lv_aload_n hx hb dX2_succeeds_263 rfl (lv_at hl 6 rfl) ?_
        refine lv_iload_n hx hb dX2_succeeds_264 rfl (lv_at hl 4 rfl) ?_
        refine cl_pi (rVN (As := [.int ((g / 10000) - (g / 10000) / 10 * 10)]) (rest := []) ⟨hx, hb, hml, hown, hts⟩ (c_X4_reasonAgainst l G a S ((g / 10000) - (g / 10000) / 10 * 10)) ⟨va_cnB 1 hts gX2_succeeds_X4_reasonAgainst_n40 rfl rfl rfl (hO.2 _ (List.mem_of_getElem? (i := 88) rfl)) (hts (.initialized RX4) (by decide +kernel)) (by decide +kernel) ⟨Nat.le_of_ble_eq_true rfl, Nat.le_of_ble_eq_true rfl⟩, hts (.instanceMethod yX4_reasonAgainst) (by decide +kernel), hts (.selects RX4 yX4_reasonAgainst yX4_reasonAgainst) (by decide +kernel)⟩ (st_recv hO hP) hP hO rfl hl.1 (Nat.le_of_ble_eq_true rfl) dX2_succeeds_265 ⟨Nat.le_of_ble_eq_true rfl, Nat.le_of_ble_eq_true rfl⟩) ?_
        refine lv_iload hx hb dX2_succeeds_268 (lv_at hl 0 rfl) ?_
        refine lv_icmp_ne (tgt := 277) hx hb dX2_succeeds_270 (by decide) (fun c_24 => ?_) (fun c_24 => ?_)
        · refine lv_iconst (v := 0) hx hb dX2_succeeds_277 (by decide) ?_
          have hE : h_X2_succeeds S g = (0, S) := (by rw [h_X2_succeeds, if_neg c_1, if_neg c_2, if_neg c_5, if_neg c_8, if_neg c_11, if_neg c_15, if_pos c_21, if_pos c_22, if_neg c_23, if_neg c_24])
          have hE2 := snd_of hE
          exact W.zret (ty := .boolean) hx hb hr rfl (fun t ht hW => ⟨by rw [fst_of hE], by rw [ht, hE2]; exact hP, hS.F ht⟩) hS.2.2 dX2_succeeds_278
        · refine lv_iconst (v := 1) hx hb dX2_succeeds_273 (by decide) ?_
          refine lv_goto (tgt := 278) hx hb dX2_succeeds_274 (by decide) ?_
          have hE : h_X2_succeeds S g = (1, S) := (by rw [h_X2_succeeds, if_neg c_1, if_neg c_2, if_neg c_5, if_neg c_8, if_neg c_11, if_neg c_15, if_pos c_21, if_pos c_22, if_neg c_23, if_pos c_24])
          have hE2 := snd_of hE
          exact W.zret (ty := .boolean) hx hb hr rfl (fun t ht hW => ⟨by rw [fst_of hE], by rw [ht, hE2]; exact hP, hS.F ht⟩) hS.2.2 dX2_succeeds_278
  by_cases c_25 : (g / 100000) = 8
  · refine lv_tableIn (off := 230) (tgt := 279) hx hb dX2_succeeds_49 (by rw [c_25]; decide) (by rw [c_25]; decide) (by rw [c_25]; decide +kernel) (by decide) ?_
    refine lv_iload hx hb dX2_succeeds_279 (lv_at hl 2 rfl) ?_
    refine lv_if_ne (tgt := 309) hx hb dX2_succeeds_281 (by decide) (fun c_26 => ?_) (fun c_26 => ?_)
    · refine lv_iconst (v := 0) hx hb dX2_succeeds_309 (by decide) ?_
      have hE : h_X2_succeeds S g = (0, S) := (by rw [h_X2_succeeds, if_neg c_1, if_neg c_2, if_neg c_5, if_neg c_8, if_neg c_11, if_neg c_15, if_neg c_21, if_pos c_25, if_neg c_26])
      have hE2 := snd_of hE
      exact W.zret (ty := .boolean) hx hb hr rfl (fun t ht hW => ⟨by rw [fst_of hE], by rw [ht, hE2]; exact hP, hS.F ht⟩) hS.2.2 dX2_succeeds_310
    · refine lv_aload_n hx hb dX2_succeeds_284 rfl (lv_at hl 6 rfl) ?_
      refine lv_iload_n hx hb dX2_succeeds_285 rfl (lv_at hl 3 rfl) ?_
      refine cl_pi (rVN (As := [.int ((g / 1000) - (g / 1000) / 100 * 100)]) (rest := []) ⟨hx, hb, hml, hown, hts⟩ (c_X4_isCar l G a S ((g / 1000) - (g / 1000) / 100 * 100)) ⟨va_cnB 1 hts gX2_succeeds_X4_isCar_n43 rfl rfl rfl (hO.2 _ (List.mem_of_getElem? (i := 89) rfl)) (hts (.initialized RX4) (by decide +kernel)) (by decide +kernel) ⟨Nat.le_of_ble_eq_true rfl, Nat.le_of_ble_eq_true rfl⟩, hts (.instanceMethod yX4_isCar) (by decide +kernel), hts (.selects RX4 yX4_isCar yX4_isCar) (by decide +kernel)⟩ (st_recv hO hP) hP hO rfl hl.1 (Nat.le_of_ble_eq_true rfl) dX2_succeeds_286 ⟨Nat.le_of_ble_eq_true rfl, Nat.le_of_ble_eq_true rfl⟩) ?_
      refine lv_if_eq (tgt := 309) hx hb dX2_succeeds_289 (by decide) (fun c_27 => ?_) (fun c_27 => ?_)
      · refine lv_iconst (v := 0) hx hb dX2_succeeds_309 (by decide) ?_
        have hE : h_X2_succeeds S g = (0, S) := (by rw [h_X2_succeeds, if_neg c_1, if_neg c_2, if_neg c_5, if_neg c_8, if_neg c_11, if_neg c_15, if_neg c_21, if_pos c_25, if_pos c_26, if_pos c_27])
        have hE2 := snd_of hE
        exact W.zret (ty := .boolean) hx hb hr rfl (fun t ht hW => ⟨by rw [fst_of hE], by rw [ht, hE2]; exact hP, hS.F ht⟩) hS.2.2 dX2_succeeds_310
      · refine lv_aload_n hx hb dX2_succeeds_292 rfl (lv_at hl 6 rfl) ?_
        refine va_getN (D := G.1) (ci := 2) (v := .ref (a + 5)) (C := RX4) (T := TX4) (N := 14) hx hb hts hin4 hown hO.1 hP 0 rfl rfl 4 (by decide) (va_Nw.use rfl (hO.2 _ (List.mem_of_getElem? (i := 6) rfl))) (fun _ h9 => h9) rfl dX2_succeeds_293 ?_
        refine lv_iload_n hx hb dX2_succeeds_296 rfl (lv_at hl 3 rfl) ?_
        refine cl_pi (rSN (As := [.ref (a + 5), .int ((g / 1000) - (g / 1000) / 100 * 100)]) (rest := []) ⟨hx, hb, hml, hown, hts⟩ (c_X6_get l G (a + 5) 40 (sT S) ((g / 1000) - (g / 1000) / 100 * 100) (by decide)) ⟨va_cnB 2 hts gX2_succeeds_X6_get_n50 rfl rfl rfl (hO.2 _ (List.mem_of_getElem? (i := 90) rfl)) (hts (.initialized RX6) (by decide +kernel)) (by decide +kernel) ⟨Nat.le_of_ble_eq_true rfl, Nat.le_of_ble_eq_true rfl⟩, hts (.static yX6_get) (by decide +kernel), trivial⟩ (va_P.sub hP [5] rfl) hO rfl hl.1 (Nat.le_of_ble_eq_true rfl) dX2_succeeds_297 ⟨Nat.le_of_ble_eq_true rfl, Nat.le_of_ble_eq_true rfl⟩) ?_
        refine lv_iload hx hb dX2_succeeds_300 (lv_at hl 0 rfl) ?_
        refine lv_icmp_ne (tgt := 309) hx hb dX2_succeeds_302 (by decide) (fun c_28 => ?_) (fun c_28 => ?_)
        · refine lv_iconst (v := 0) hx hb dX2_succeeds_309 (by decide) ?_
          have hE : h_X2_succeeds S g = (0, S) := (by rw [h_X2_succeeds, if_neg c_1, if_neg c_2, if_neg c_5, if_neg c_8, if_neg c_11, if_neg c_15, if_neg c_21, if_pos c_25, if_pos c_26, if_neg c_27, if_neg c_28])
          have hE2 := snd_of hE
          exact W.zret (ty := .boolean) hx hb hr rfl (fun t ht hW => ⟨by rw [fst_of hE], by rw [ht, hE2]; exact hP, hS.F ht⟩) hS.2.2 dX2_succeeds_310
        · refine lv_iconst (v := 1) hx hb dX2_succeeds_305 (by decide) ?_
          refine lv_goto (tgt := 310) hx hb dX2_succeeds_306 (by decide) ?_
          have hE : h_X2_succeeds S g = (1, S) := (by rw [h_X2_succeeds, if_neg c_1, if_neg c_2, if_neg c_5, if_neg c_8, if_neg c_11, if_neg c_15, if_neg c_21, if_pos c_25, if_pos c_26, if_neg c_27, if_pos c_28])
          have hE2 := snd_of hE
          exact W.zret (ty := .boolean) hx hb hr rfl (fun t ht hW => ⟨by rw [fst_of hE], by rw [ht, hE2]; exact hP, hS.F ht⟩) hS.2.2 dX2_succeeds_310
  by_cases c_29 : (g / 100000) = 9
  · refine lv_tableIn (off := 262) (tgt := 311) hx hb dX2_succeeds_49 (by rw [c_29]; decide) (by rw [c_29]; decide) (by rw [c_29]; decide +kernel) (by decide) ?_
    refine lv_iload_n hx hb dX2_succeeds_311 rfl (lv_at hl 5 rfl) ?_
    refine lv_bipush (v := 100) hx hb dX2_succeeds_312 (by decide) ?_
    refine lv_idiv hx hb dX2_succeeds_314 (by decide) ?_
    refine lv_bipush (v := 100) hx hb dX2_succeeds_315 (by decide) ?_
    refine lv_irem hx hb dX2_succeeds_317 (by decide) ?_
    refine lv_if_ne (tgt := 342) hx hb dX2_succeeds_318 (by decide) (fun c_30 => ?_) (fun c_30 => ?_)
    · refine lv_iconst (v := 0) hx hb dX2_succeeds_342 (by decide) ?_
      have hE : h_X2_succeeds S g = (0, S) := (by rw [h_X2_succeeds, if_neg c_1, if_neg c_2, if_neg c_5, if_neg c_8, if_neg c_11, if_neg c_15, if_neg c_21, if_neg c_25, if_pos c_29, if_neg c_30])
      have hE2 := snd_of hE
      exact W.zret (ty := .boolean) hx hb hr rfl (fun t ht hW => ⟨by rw [fst_of hE], by rw [ht, hE2]; exact hP, hS.F ht⟩) hS.2.2 dX2_succeeds_343
    · refine lv_iload_n hx hb dX2_succeeds_321 rfl (lv_at hl 4 rfl) ?_
      refine cl_pi (rSN (As := [.int ((g / 10000) - (g / 10000) / 10 * 10)]) (rest := []) ⟨hx, hb, hml, hown, hts⟩ (c_X6_isLength l G ((g / 10000) - (g / 10000) / 10 * 10)) ⟨va_cnB 1 hts gX2_succeeds_X6_isLength_n36 rfl rfl rfl (hO.2 _ (List.mem_of_getElem? (i := 87) rfl)) (hts (.initialized RX6) (by decide +kernel)) (by decide +kernel) ⟨Nat.le_of_ble_eq_true rfl, Nat.le_of_ble_eq_true rfl⟩, hts (.static yX6_isLength) (by decide +kernel), trivial⟩ trivial hO rfl hl.1 (Nat.le_of_ble_eq_true rfl) dX2_succeeds_322 ⟨Nat.le_of_ble_eq_true rfl, Nat.le_of_ble_eq_true rfl⟩) ?_
      refine lv_if_eq (tgt := 342) hx hb dX2_succeeds_325 (by decide) (fun c_31 => ?_) (fun c_31 => ?_)
      · refine lv_iconst (v := 0) hx hb dX2_succeeds_342 (by decide) ?_
        have hE : h_X2_succeeds S g = (0, S) := (by rw [h_X2_succeeds, if_neg c_1, if_neg c_2, if_neg c_5, if_neg c_8, if_neg c_11, if_neg c_15, if_neg c_21, if_neg c_25, if_pos c_29, if_pos c_30, if_pos c_31])
        have hE2 := snd_of hE
        exact W.zret (ty := .boolean) hx hb hr rfl (fun t ht hW => ⟨by rw [fst_of hE], by rw [ht, hE2]; exact hP, hS.F ht⟩) hS.2.2 dX2_succeeds_343
      · refine lv_aload_n hx hb dX2_succeeds_328 rfl (lv_at hl 6 rfl) ?_
        refine lv_iload_n hx hb dX2_succeeds_329 rfl (lv_at hl 4 rfl) ?_
        refine cl_pi (rVN (As := [.int ((g / 10000) - (g / 10000) / 10 * 10)]) (rest := []) ⟨hx, hb, hml, hown, hts⟩ (c_X4_fittingByGaps l G a S ((g / 10000) - (g / 10000) / 10 * 10)) ⟨va_cnB 1 hts gX2_succeeds_X4_fittingByGaps_n54 rfl rfl rfl (hO.2 _ (List.mem_of_getElem? (i := 91) rfl)) (hts (.initialized RX4) (by decide +kernel)) (by decide +kernel) ⟨Nat.le_of_ble_eq_true rfl, Nat.le_of_ble_eq_true rfl⟩, hts (.instanceMethod yX4_fittingByGaps) (by decide +kernel), hts (.selects RX4 yX4_fittingByGaps yX4_fittingByGaps) (by decide +kernel)⟩ (st_recv hO hP) hP hO rfl hl.1 (Nat.le_of_ble_eq_true rfl) dX2_succeeds_330 ⟨Nat.le_of_ble_eq_true rfl, Nat.le_of_ble_eq_true rfl⟩) ?_
        refine lv_iload hx hb dX2_succeeds_333 (lv_at hl 1 rfl) ?_
        refine lv_icmp_lt (tgt := 342) hx hb dX2_succeeds_335 (by decide) (fun c_32 => ?_) (fun c_32 => ?_)
        · refine lv_iconst (v := 0) hx hb dX2_succeeds_342 (by decide) ?_
          have hE : h_X2_succeeds S g = (0, S) := (by rw [h_X2_succeeds, if_neg c_1, if_neg c_2, if_neg c_5, if_neg c_8, if_neg c_11, if_neg c_15, if_neg c_21, if_neg c_25, if_pos c_29, if_pos c_30, if_neg c_31, if_pos c_32])
          have hE2 := snd_of hE
          exact W.zret (ty := .boolean) hx hb hr rfl (fun t ht hW => ⟨by rw [fst_of hE], by rw [ht, hE2]; exact hP, hS.F ht⟩) hS.2.2 dX2_succeeds_343
        · refine lv_iconst (v := 1) hx hb dX2_succeeds_338 (by decide) ?_
          refine lv_goto (tgt := 343) hx hb dX2_succeeds_339 (by decide) ?_
          have hE : h_X2_succeeds S g = (1, S) := (by rw [h_X2_succeeds, if_neg c_1, if_neg c_2, if_neg c_5, if_neg c_8, if_neg c_11, if_neg c_15, if_neg c_21, if_neg c_25, if_pos c_29, if_pos c_30, if_neg c_31, if_neg c_32])
          have hE2 := snd_of hE
          exact W.zret (ty := .boolean) hx hb hr rfl (fun t ht hW => ⟨by rw [fst_of hE], by rw [ht, hE2]; exact hP, hS.F ht⟩) hS.2.2 dX2_succeeds_343
  refine lv_tableD (tgt := 344) hx hb dX2_succeeds_49 (by intro i h1 h2 h3; rcases (show i = 1 ∨ i = 2 ∨ i = 3 ∨ i = 4 ∨ i = 5 ∨ i = 6 ∨ i = 7 ∨ i = 8 ∨ i = 9 by omega) with rfl | rfl | rfl | rfl | rfl | rfl | rfl | rfl | rfl; all_goals first | decide +kernel | (clear h1 h2; first | exact absurd (Int32.toInt_inj.mp (h3.symm.trans (show (1 : Int) = (1 : Int32).toInt by decide))) c_1 | exact absurd (Int32.toInt_inj.mp (h3.symm.trans (show (2 : Int) = (2 : Int32).toInt by decide))) c_2 | exact absurd (Int32.toInt_inj.mp (h3.symm.trans (show (3 : Int) = (3 : Int32).toInt by decide))) c_5 | exact absurd (Int32.toInt_inj.mp (h3.symm.trans (show (4 : Int) = (4 : Int32).toInt by decide))) c_8 | exact absurd (Int32.toInt_inj.mp (h3.symm.trans (show (5 : Int) = (5 : Int32).toInt by decide))) c_11 | exact absurd (Int32.toInt_inj.mp (h3.symm.trans (show (6 : Int) = (6 : Int32).toInt by decide))) c_15 | exact absurd (Int32.toInt_inj.mp (h3.symm.trans (show (7 : Int) = (7 : Int32).toInt by decide))) c_21 | exact absurd (Int32.toInt_inj.mp (h3.symm.trans (show (8 : Int) = (8 : Int32).toInt by decide))) c_25 | exact absurd (Int32.toInt_inj.mp (h3.symm.trans (show (9 : Int) = (9 : Int32).toInt by decide))) c_29)) (by decide) ?_
  refine lv_iconst (v := 0) hx hb dX2_succeeds_344 (by decide) ?_
  have hE : h_X2_succeeds S g = (0, S) := (by rw [h_X2_succeeds, if_neg c_1, if_neg c_2, if_neg c_5, if_neg c_8, if_neg c_11, if_neg c_15, if_neg c_21, if_neg c_25, if_neg c_29])
  have hE2 := snd_of hE
  exact W.zret (ty := .boolean) hx hb hr rfl (fun t ht hW => ⟨by rw [fst_of hE], by rw [ht, hE2]; exact hP, hS.F ht⟩) hS.2.2 dX2_succeeds_345

def h_X3_changeRuleOrRoom (S : St) (q : Int32) : St :=
  if ((q / 4) - (q / 4) / 2 * 2) = 0 then (h_X4_changeSetting S 0 (q - q / 3 * 3)).2 else
  (h_X4_changeSetting S 1 ((q / 8) - (q / 8) / 5 * 5)).2
set_option maxHeartbeats 4000000 in
set_option maxRecDepth 100000 in
theorem c_X3_changeRuleOrRoom (l : Launch) (G : GG) (a : Nat) (S : St) (q : Int32) : Met l yX3_changeRuleOrRoom wsX3_changeRuleOrRoom ({ frames := 2, cells := 0, slots := 0, locals := 44 }) (PcH G [.int q, .ref a] (Str G a S)) (QM none (Str G a (h_X3_changeRuleOrRoom S q)) (blk a (a + 9))) 0 0 (blk a (a + 9)) := by
  refine metH (cc := cX3_changeRuleOrRoom) (maxL := 2) (ret := none) (by decide) rfl ?_
  intro p e s m below meth cd hx hb hr hml hown hts hlocks hP hO
  have hA : ∀ q, (blk a (a + 9)) q → (blk a (a + 9)) q := fun _ h => h
  have hS : va_S (blk a (a + 9)) s.heap s.heap [] := va_S.rf
  have hl := lv_entry ([.int q, .ref a]) (n := 2) (Nat.le_of_ble_eq_true rfl)
  rw [lg_entry_eq]
  generalize (lg_sl ([.int q, .ref a]) ++ List.replicate (2 - (lg_sl ([.int q, .ref a])).length) Slot.unset).toArray = ls at hl ⊢
  have hl : lv_has ls 2 [(0, .int q), (1, .ref a)] := hl
  refine lv_iload_n hx hb dX3_changeRuleOrRoom_0 rfl (lv_at hl 0 rfl) ?_
  refine lv_iconst (v := 4) hx hb dX3_changeRuleOrRoom_1 (by decide) ?_
  refine lv_idiv hx hb dX3_changeRuleOrRoom_2 (by decide) ?_
  refine lv_iconst (v := 2) hx hb dX3_changeRuleOrRoom_3 (by decide) ?_
  refine lv_irem hx hb dX3_changeRuleOrRoom_4 (by decide) ?_
  refine lv_if_ne (tgt := 20) hx hb dX3_changeRuleOrRoom_5 (by decide) (fun c_1 => ?_) (fun c_1 => ?_)
  · refine lv_aload_n hx hb dX3_changeRuleOrRoom_20 rfl (lv_at hl 1 rfl) ?_
    refine lv_iconst (v := 1) hx hb dX3_changeRuleOrRoom_21 (by decide) ?_
    refine lv_iload_n hx hb dX3_changeRuleOrRoom_22 rfl (lv_at hl 0 rfl) ?_
    refine lv_bipush (v := 8) hx hb dX3_changeRuleOrRoom_23 (by decide) ?_
    refine lv_idiv hx hb dX3_changeRuleOrRoom_25 (by decide) ?_
    refine lv_iconst (v := 5) hx hb dX3_changeRuleOrRoom_26 (by decide) ?_
    refine lv_irem hx hb dX3_changeRuleOrRoom_27 (by decide) ?_
    refine cl_mi (rVN (As := [.int 1, .int ((q / 8) - (q / 8) / 5 * 5)]) (rest := []) ⟨hx, hb, hml, hown, hts⟩ (c_X4_changeSetting l G a S 1 ((q / 8) - (q / 8) / 5 * 5)) ⟨va_cnB 2 hts gX3_changeRuleOrRoom_X4_changeSetting_n32 rfl rfl rfl (hO.2 _ (List.mem_of_getElem? (i := 96) rfl)) (hts (.initialized RX4) (by decide +kernel)) (by decide +kernel) ⟨Nat.le_of_ble_eq_true rfl, Nat.le_of_ble_eq_true rfl⟩, hts (.instanceMethod yX4_changeSetting) (by decide +kernel), hts (.selects RX4 yX4_changeSetting yX4_changeSetting) (by decide +kernel)⟩ (st_recv hO hP) hP hO rfl hl.1 (Nat.le_of_ble_eq_true rfl) dX3_changeRuleOrRoom_28 ⟨Nat.le_of_ble_eq_true rfl, Nat.le_of_ble_eq_true rfl⟩) hS hA (fun H locs hP1 hz hk hS => ?_)
    have hP : Str G a ((h_X4_changeSetting S 1 ((q / 8) - (q / 8) / 5 * 5)).2) H := hP1
    refine lv_pop hx hb dX3_changeRuleOrRoom_31 rfl ?_
    have hE : h_X3_changeRuleOrRoom S q = (h_X4_changeSetting S 1 ((q / 8) - (q / 8) / 5 * 5)).2 := (by rw [h_X3_changeRuleOrRoom, if_neg c_1])
    exact W.vret hx hb hr (fun t ht hW => ⟨rfl, by rw [ht, hE]; exact hP, hS.F ht⟩) hS.2.2 dX3_changeRuleOrRoom_32
  · refine lv_aload_n hx hb dX3_changeRuleOrRoom_8 rfl (lv_at hl 1 rfl) ?_
    refine lv_iconst (v := 0) hx hb dX3_changeRuleOrRoom_9 (by decide) ?_
    refine lv_iload_n hx hb dX3_changeRuleOrRoom_10 rfl (lv_at hl 0 rfl) ?_
    refine lv_iconst (v := 3) hx hb dX3_changeRuleOrRoom_11 (by decide) ?_
    refine lv_irem hx hb dX3_changeRuleOrRoom_12 (by decide) ?_
    refine cl_mi (rVN (As := [.int 0, .int (q - q / 3 * 3)]) (rest := []) ⟨hx, hb, hml, hown, hts⟩ (c_X4_changeSetting l G a S 0 (q - q / 3 * 3)) ⟨va_cnB 2 hts gX3_changeRuleOrRoom_X4_changeSetting_n32 rfl rfl rfl (hO.2 _ (List.mem_of_getElem? (i := 96) rfl)) (hts (.initialized RX4) (by decide +kernel)) (by decide +kernel) ⟨Nat.le_of_ble_eq_true rfl, Nat.le_of_ble_eq_true rfl⟩, hts (.instanceMethod yX4_changeSetting) (by decide +kernel), hts (.selects RX4 yX4_changeSetting yX4_changeSetting) (by decide +kernel)⟩ (st_recv hO hP) hP hO rfl hl.1 (Nat.le_of_ble_eq_true rfl) dX3_changeRuleOrRoom_13 ⟨Nat.le_of_ble_eq_true rfl, Nat.le_of_ble_eq_true rfl⟩) hS hA (fun H locs hP1 hz hk hS => ?_)
    have hP : Str G a ((h_X4_changeSetting S 0 (q - q / 3 * 3)).2) H := hP1
    refine lv_pop hx hb dX3_changeRuleOrRoom_16 rfl ?_
    refine lv_goto (tgt := 32) hx hb dX3_changeRuleOrRoom_17 (by decide) ?_
    have hE : h_X3_changeRuleOrRoom S q = (h_X4_changeSetting S 0 (q - q / 3 * 3)).2 := (by rw [h_X3_changeRuleOrRoom, if_pos c_1])
    exact W.vret hx hb hr (fun t ht hW => ⟨rfl, by rw [ht, hE]; exact hP, hS.F ht⟩) hS.2.2 dX3_changeRuleOrRoom_32

def h_X3_doTurn (S : St) (r : Int32) : St :=
  if (r - r / 8 * 8) = 0 then (h_X4_arrive S (2 + ((r / 8) - (r / 8) / 7 * 7)) (1 + (((r / 8) / 8) - ((r / 8) / 8) / 30 * 30))).2 else
  if (r - r / 8 * 8) = 1 then (h_X4_arrive S (2 + ((r / 8) - (r / 8) / 7 * 7)) (1 + (((r / 8) / 8) - ((r / 8) / 8) / 30 * 30))).2 else
  if (r - r / 8 * 8) = 2 then (h_X4_arrive S (2 + ((r / 8) - (r / 8) / 7 * 7)) (1 + (((r / 8) / 8) - ((r / 8) / 8) / 30 * 30))).2 else
  if (r - r / 8 * 8) = 3 then (h_X4_depart S ((r / 8) - (r / 8) / 40 * 40) 2).2 else
  if (r - r / 8 * 8) = 4 then (if (((r / 8) / 128) - ((r / 8) / 128) / 3 * 3) = 0 then (h_X4_putHydrant S ((r / 8) - (r / 8) / 80 * 80) 0).2 else
    (h_X4_putHydrant S ((r / 8) - (r / 8) / 80 * 80) 1).2) else
  if (r - r / 8 * 8) = 5 then (h_X3_changeRuleOrRoom S (r / 8)) else
  (h_X4_passMinutes S (1 + ((r / 8) - (r / 8) / 9 * 9))).2
set_option maxHeartbeats 4000000 in
set_option maxRecDepth 100000 in
theorem c_X3_doTurn (l : Launch) (G : GG) (a : Nat) (S : St) (r : Int32) : Met l yX3_doTurn wsX3_doTurn ({ frames := 5, cells := 0, slots := 0, locals := 116 }) (PcH G [.int r, .ref a] (Str G a S)) (QM none (Str G a (h_X3_doTurn S r)) (blk a (a + 9))) 0 0 (blk a (a + 9)) := by
  refine metH (cc := cX3_doTurn) (maxL := 3) (ret := none) (by decide) rfl ?_
  intro p e s m below meth cd hx hb hr hml hown hts hlocks hP hO
  have hA : ∀ q, (blk a (a + 9)) q → (blk a (a + 9)) q := fun _ h => h
  have hS : va_S (blk a (a + 9)) s.heap s.heap [] := va_S.rf
  have hl := lv_entry ([.int r, .ref a]) (n := 3) (Nat.le_of_ble_eq_true rfl)
  rw [lg_entry_eq]
  generalize (lg_sl ([.int r, .ref a]) ++ List.replicate (3 - (lg_sl ([.int r, .ref a])).length) Slot.unset).toArray = ls at hl ⊢
  have hl : lv_has ls 3 [(0, .int r), (1, .ref a)] := hl
  refine lv_iload_n hx hb dX3_doTurn_0 rfl (lv_at hl 0 rfl) ?_
  refine lv_bipush (v := 8) hx hb dX3_doTurn_1 (by decide) ?_
  refine lv_idiv hx hb dX3_doTurn_3 (by decide) ?_
  refine lv_istore_n (lv' := [(2, .int (r / 8)), (0, .int r), (1, .ref a)]) hx hb dX3_doTurn_4 rfl hl (by decide) rfl (fun ls hl => ?_)
  refine lv_aload_n hx hb dX3_doTurn_5 rfl (lv_at hl 2 rfl) ?_
  refine lv_ifnonnull (tgt := 10) hx hb dX3_doTurn_6 (by decide) ?_
  refine lv_iload_n hx hb dX3_doTurn_10 rfl (lv_at hl 1 rfl) ?_
  refine lv_bipush (v := 8) hx hb dX3_doTurn_11 (by decide) ?_
  refine lv_irem hx hb dX3_doTurn_13 (by decide) ?_
  by_cases c_1 : (r - r / 8 * 8) = 0
  · refine lv_tableIn (off := 38) (tgt := 52) hx hb dX3_doTurn_14 (by rw [c_1]; decide) (by rw [c_1]; decide) (by rw [c_1]; decide +kernel) (by decide) ?_
    refine lv_aload_n hx hb dX3_doTurn_52 rfl (lv_at hl 2 rfl) ?_
    refine lv_iconst (v := 2) hx hb dX3_doTurn_53 (by decide) ?_
    refine lv_iload_n hx hb dX3_doTurn_54 rfl (lv_at hl 0 rfl) ?_
    refine lv_bipush (v := 7) hx hb dX3_doTurn_55 (by decide) ?_
    refine lv_irem hx hb dX3_doTurn_57 (by decide) ?_
    refine lv_iadd hx hb dX3_doTurn_58 ?_
    refine lv_iconst (v := 1) hx hb dX3_doTurn_59 (by decide) ?_
    refine lv_iload_n hx hb dX3_doTurn_60 rfl (lv_at hl 0 rfl) ?_
    refine lv_bipush (v := 8) hx hb dX3_doTurn_61 (by decide) ?_
    refine lv_idiv hx hb dX3_doTurn_63 (by decide) ?_
    refine lv_bipush (v := 30) hx hb dX3_doTurn_64 (by decide) ?_
    refine lv_irem hx hb dX3_doTurn_66 (by decide) ?_
    refine lv_iadd hx hb dX3_doTurn_67 ?_
    refine cl_mi (rVN (As := [.int (2 + ((r / 8) - (r / 8) / 7 * 7)), .int (1 + (((r / 8) / 8) - ((r / 8) / 8) / 30 * 30))]) (rest := []) ⟨hx, hb, hml, hown, hts⟩ (c_X4_arrive l G a S (2 + ((r / 8) - (r / 8) / 7 * 7)) (1 + (((r / 8) / 8) - ((r / 8) / 8) / 30 * 30))) ⟨va_cnB 2 hts gX3_doTurn_X4_arrive_n9 rfl rfl rfl (hO.2 _ (List.mem_of_getElem? (i := 93) rfl)) (hts (.initialized RX4) (by decide +kernel)) (by decide +kernel) ⟨Nat.le_of_ble_eq_true rfl, Nat.le_of_ble_eq_true rfl⟩, hts (.instanceMethod yX4_arrive) (by decide +kernel), hts (.selects RX4 yX4_arrive yX4_arrive) (by decide +kernel)⟩ (st_recv hO hP) hP hO rfl hl.1 (Nat.le_of_ble_eq_true rfl) dX3_doTurn_68 ⟨Nat.le_of_ble_eq_true rfl, Nat.le_of_ble_eq_true rfl⟩) hS hA (fun H locs hP1 hz hk hS => ?_)
    have hP : Str G a ((h_X4_arrive S (2 + ((r / 8) - (r / 8) / 7 * 7)) (1 + (((r / 8) / 8) - ((r / 8) / 8) / 30 * 30))).2) H := hP1
    refine lv_pop hx hb dX3_doTurn_71 rfl ?_
    refine lv_goto (tgt := 134) hx hb dX3_doTurn_72 (by decide) ?_
    have hE : h_X3_doTurn S r = (h_X4_arrive S (2 + ((r / 8) - (r / 8) / 7 * 7)) (1 + (((r / 8) / 8) - ((r / 8) / 8) / 30 * 30))).2 := (by rw [h_X3_doTurn, if_pos c_1])
    exact W.vret hx hb hr (fun t ht hW => ⟨rfl, by rw [ht, hE]; exact hP, hS.F ht⟩) hS.2.2 dX3_doTurn_134
  by_cases c_2 : (r - r / 8 * 8) = 1
  · refine lv_tableIn (off := 38) (tgt := 52) hx hb dX3_doTurn_14 (by rw [c_2]; decide) (by rw [c_2]; decide) (by rw [c_2]; decide +kernel) (by decide) ?_
    refine lv_aload_n hx hb dX3_doTurn_52 rfl (lv_at hl 2 rfl) ?_
    refine lv_iconst (v := 2) hx hb dX3_doTurn_53 (by decide) ?_
    refine lv_iload_n hx hb dX3_doTurn_54 rfl (lv_at hl 0 rfl) ?_
    refine lv_bipush (v := 7) hx hb dX3_doTurn_55 (by decide) ?_
    refine lv_irem hx hb dX3_doTurn_57 (by decide) ?_
    refine lv_iadd hx hb dX3_doTurn_58 ?_
    refine lv_iconst (v := 1) hx hb dX3_doTurn_59 (by decide) ?_
    refine lv_iload_n hx hb dX3_doTurn_60 rfl (lv_at hl 0 rfl) ?_
    refine lv_bipush (v := 8) hx hb dX3_doTurn_61 (by decide) ?_
    refine lv_idiv hx hb dX3_doTurn_63 (by decide) ?_
    refine lv_bipush (v := 30) hx hb dX3_doTurn_64 (by decide) ?_
    refine lv_irem hx hb dX3_doTurn_66 (by decide) ?_
    refine lv_iadd hx hb dX3_doTurn_67 ?_
    refine cl_mi (rVN (As := [.int (2 + ((r / 8) - (r / 8) / 7 * 7)), .int (1 + (((r / 8) / 8) - ((r / 8) / 8) / 30 * 30))]) (rest := []) ⟨hx, hb, hml, hown, hts⟩ (c_X4_arrive l G a S (2 + ((r / 8) - (r / 8) / 7 * 7)) (1 + (((r / 8) / 8) - ((r / 8) / 8) / 30 * 30))) ⟨va_cnB 2 hts gX3_doTurn_X4_arrive_n9 rfl rfl rfl (hO.2 _ (List.mem_of_getElem? (i := 93) rfl)) (hts (.initialized RX4) (by decide +kernel)) (by decide +kernel) ⟨Nat.le_of_ble_eq_true rfl, Nat.le_of_ble_eq_true rfl⟩, hts (.instanceMethod yX4_arrive) (by decide +kernel), hts (.selects RX4 yX4_arrive yX4_arrive) (by decide +kernel)⟩ (st_recv hO hP) hP hO rfl hl.1 (Nat.le_of_ble_eq_true rfl) dX3_doTurn_68 ⟨Nat.le_of_ble_eq_true rfl, Nat.le_of_ble_eq_true rfl⟩) hS hA (fun H locs hP1 hz hk hS => ?_)
    have hP : Str G a ((h_X4_arrive S (2 + ((r / 8) - (r / 8) / 7 * 7)) (1 + (((r / 8) / 8) - ((r / 8) / 8) / 30 * 30))).2) H := hP1
    refine lv_pop hx hb dX3_doTurn_71 rfl ?_
    refine lv_goto (tgt := 134) hx hb dX3_doTurn_72 (by decide) ?_
    have hE : h_X3_doTurn S r = (h_X4_arrive S (2 + ((r / 8) - (r / 8) / 7 * 7)) (1 + (((r / 8) / 8) - ((r / 8) / 8) / 30 * 30))).2 := (by rw [h_X3_doTurn, if_neg c_1, if_pos c_2])
    exact W.vret hx hb hr (fun t ht hW => ⟨rfl, by rw [ht, hE]; exact hP, hS.F ht⟩) hS.2.2 dX3_doTurn_134
  by_cases c_3 : (r - r / 8 * 8) = 2
  · refine lv_tableIn (off := 38) (tgt := 52) hx hb dX3_doTurn_14 (by rw [c_3]; decide) (by rw [c_3]; decide) (by rw [c_3]; decide +kernel) (by decide) ?_
    refine lv_aload_n hx hb dX3_doTurn_52 rfl (lv_at hl 2 rfl) ?_
    refine lv_iconst (v := 2) hx hb dX3_doTurn_53 (by decide) ?_
    refine lv_iload_n hx hb dX3_doTurn_54 rfl (lv_at hl 0 rfl) ?_
    refine lv_bipush (v := 7) hx hb dX3_doTurn_55 (by decide) ?_
    refine lv_irem hx hb dX3_doTurn_57 (by decide) ?_
    refine lv_iadd hx hb dX3_doTurn_58 ?_
    refine lv_iconst (v := 1) hx hb dX3_doTurn_59 (by decide) ?_
    refine lv_iload_n hx hb dX3_doTurn_60 rfl (lv_at hl 0 rfl) ?_
    refine lv_bipush (v := 8) hx hb dX3_doTurn_61 (by decide) ?_
    refine lv_idiv hx hb dX3_doTurn_63 (by decide) ?_
    refine lv_bipush (v := 30) hx hb dX3_doTurn_64 (by decide) ?_
    refine lv_irem hx hb dX3_doTurn_66 (by decide) ?_
    refine lv_iadd hx hb dX3_doTurn_67 ?_
    refine cl_mi (rVN (As := [.int (2 + ((r / 8) - (r / 8) / 7 * 7)), .int (1 + (((r / 8) / 8) - ((r / 8) / 8) / 30 * 30))]) (rest := []) ⟨hx, hb, hml, hown, hts⟩ (c_X4_arrive l G a S (2 + ((r / 8) - (r / 8) / 7 * 7)) (1 + (((r / 8) / 8) - ((r / 8) / 8) / 30 * 30))) ⟨va_cnB 2 hts gX3_doTurn_X4_arrive_n9 rfl rfl rfl (hO.2 _ (List.mem_of_getElem? (i := 93) rfl)) (hts (.initialized RX4) (by decide +kernel)) (by decide +kernel) ⟨Nat.le_of_ble_eq_true rfl, Nat.le_of_ble_eq_true rfl⟩, hts (.instanceMethod yX4_arrive) (by decide +kernel), hts (.selects RX4 yX4_arrive yX4_arrive) (by decide +kernel)⟩ (st_recv hO hP) hP hO rfl hl.1 (Nat.le_of_ble_eq_true rfl) dX3_doTurn_68 ⟨Nat.le_of_ble_eq_true rfl, Nat.le_of_ble_eq_true rfl⟩) hS hA (fun H locs hP1 hz hk hS => ?_)
    have hP : Str G a ((h_X4_arrive S (2 + ((r / 8) - (r / 8) / 7 * 7)) (1 + (((r / 8) / 8) - ((r / 8) / 8) / 30 * 30))).2) H := hP1
    refine lv_pop hx hb dX3_doTurn_71 rfl ?_
    refine lv_goto (tgt := 134) hx hb dX3_doTurn_72 (by decide) ?_
    have hE : h_X3_doTurn S r = (h_X4_arrive S (2 + ((r / 8) - (r / 8) / 7 * 7)) (1 + (((r / 8) / 8) - ((r / 8) / 8) / 30 * 30))).2 := (by rw [h_X3_doTurn, if_neg c_1, if_neg c_2, if_pos c_3])
    exact W.vret hx hb hr (fun t ht hW => ⟨rfl, by rw [ht, hE]; exact hP, hS.F ht⟩) hS.2.2 dX3_doTurn_134
  by_cases c_4 : (r - r / 8 * 8) = 3
  · refine lv_tableIn (off := 61) (tgt := 75) hx hb dX3_doTurn_14 (by rw [c_4]; decide) (by rw [c_4]; decide) (by rw [c_4]; decide +kernel) (by decide) ?_
    refine lv_aload_n hx hb dX3_doTurn_75 rfl (lv_at hl 2 rfl) ?_
    refine lv_iload_n hx hb dX3_doTurn_76 rfl (lv_at hl 0 rfl) ?_
    refine lv_bipush (v := 40) hx hb dX3_doTurn_77 (by decide) ?_
    refine lv_irem hx hb dX3_doTurn_79 (by decide) ?_
    refine lv_iconst (v := 2) hx hb dX3_doTurn_80 (by decide) ?_
    refine cl_mi (rVN (As := [.int ((r / 8) - (r / 8) / 40 * 40), .int 2]) (rest := []) ⟨hx, hb, hml, hown, hts⟩ (c_X4_depart l G a S ((r / 8) - (r / 8) / 40 * 40) 2) ⟨va_cnB 2 hts gX3_doTurn_X4_depart_n15 rfl rfl rfl (hO.2 _ (List.mem_of_getElem? (i := 94) rfl)) (hts (.initialized RX4) (by decide +kernel)) (by decide +kernel) ⟨Nat.le_of_ble_eq_true rfl, Nat.le_of_ble_eq_true rfl⟩, hts (.instanceMethod yX4_depart) (by decide +kernel), hts (.selects RX4 yX4_depart yX4_depart) (by decide +kernel)⟩ (st_recv hO hP) hP hO rfl hl.1 (Nat.le_of_ble_eq_true rfl) dX3_doTurn_81 ⟨Nat.le_of_ble_eq_true rfl, Nat.le_of_ble_eq_true rfl⟩) hS hA (fun H locs hP1 hz hk hS => ?_)
    have hP : Str G a ((h_X4_depart S ((r / 8) - (r / 8) / 40 * 40) 2).2) H := hP1
    refine lv_pop hx hb dX3_doTurn_84 rfl ?_
    refine lv_goto (tgt := 134) hx hb dX3_doTurn_85 (by decide) ?_
    have hE : h_X3_doTurn S r = (h_X4_depart S ((r / 8) - (r / 8) / 40 * 40) 2).2 := (by rw [h_X3_doTurn, if_neg c_1, if_neg c_2, if_neg c_3, if_pos c_4])
    exact W.vret hx hb hr (fun t ht hW => ⟨rfl, by rw [ht, hE]; exact hP, hS.F ht⟩) hS.2.2 dX3_doTurn_134
  by_cases c_5 : (r - r / 8 * 8) = 4
  · refine lv_tableIn (off := 74) (tgt := 88) hx hb dX3_doTurn_14 (by rw [c_5]; decide) (by rw [c_5]; decide) (by rw [c_5]; decide +kernel) (by decide) ?_
    refine lv_aload_n hx hb dX3_doTurn_88 rfl (lv_at hl 2 rfl) ?_
    refine lv_iload_n hx hb dX3_doTurn_89 rfl (lv_at hl 0 rfl) ?_
    refine lv_bipush (v := 80) hx hb dX3_doTurn_90 (by decide) ?_
    refine lv_irem hx hb dX3_doTurn_92 (by decide) ?_
    refine lv_iload_n hx hb dX3_doTurn_93 rfl (lv_at hl 0 rfl) ?_
    refine lv_sipush (v := 128) hx hb dX3_doTurn_94 (by decide) ?_
    refine lv_idiv hx hb dX3_doTurn_97 (by decide) ?_
    refine lv_iconst (v := 3) hx hb dX3_doTurn_98 (by decide) ?_
    refine lv_irem hx hb dX3_doTurn_99 (by decide) ?_
    refine lv_if_eq (tgt := 107) hx hb dX3_doTurn_100 (by decide) (fun c_6 => ?_) (fun c_6 => ?_)
    · refine lv_iconst (v := 0) hx hb dX3_doTurn_107 (by decide) ?_
      refine cl_mi (rVN (As := [.int ((r / 8) - (r / 8) / 80 * 80), .int 0]) (rest := []) ⟨hx, hb, hml, hown, hts⟩ (c_X4_putHydrant l G a S ((r / 8) - (r / 8) / 80 * 80) 0) ⟨va_cnB 2 hts gX3_doTurn_X4_putHydrant_n18 rfl rfl rfl (hO.2 _ (List.mem_of_getElem? (i := 95) rfl)) (hts (.initialized RX4) (by decide +kernel)) (by decide +kernel) ⟨Nat.le_of_ble_eq_true rfl, Nat.le_of_ble_eq_true rfl⟩, hts (.instanceMethod yX4_putHydrant) (by decide +kernel), hts (.selects RX4 yX4_putHydrant yX4_putHydrant) (by decide +kernel)⟩ (st_recv hO hP) hP hO rfl hl.1 (Nat.le_of_ble_eq_true rfl) dX3_doTurn_108 ⟨Nat.le_of_ble_eq_true rfl, Nat.le_of_ble_eq_true rfl⟩) hS hA (fun H locs hP1 hz hk hS => ?_)
      have hP : Str G a ((h_X4_putHydrant S ((r / 8) - (r / 8) / 80 * 80) 0).2) H := hP1
      refine lv_pop hx hb dX3_doTurn_111 rfl ?_
      refine lv_goto (tgt := 134) hx hb dX3_doTurn_112 (by decide) ?_
      have hE : h_X3_doTurn S r = (h_X4_putHydrant S ((r / 8) - (r / 8) / 80 * 80) 0).2 := (by rw [h_X3_doTurn, if_neg c_1, if_neg c_2, if_neg c_3, if_neg c_4, if_pos c_5, if_pos c_6])
      exact W.vret hx hb hr (fun t ht hW => ⟨rfl, by rw [ht, hE]; exact hP, hS.F ht⟩) hS.2.2 dX3_doTurn_134
    · refine lv_iconst (v := 1) hx hb dX3_doTurn_103 (by decide) ?_
      refine lv_goto (tgt := 108) hx hb dX3_doTurn_104 (by decide) ?_
      refine cl_mi (rVN (As := [.int ((r / 8) - (r / 8) / 80 * 80), .int 1]) (rest := []) ⟨hx, hb, hml, hown, hts⟩ (c_X4_putHydrant l G a S ((r / 8) - (r / 8) / 80 * 80) 1) ⟨va_cnB 2 hts gX3_doTurn_X4_putHydrant_n18 rfl rfl rfl (hO.2 _ (List.mem_of_getElem? (i := 95) rfl)) (hts (.initialized RX4) (by decide +kernel)) (by decide +kernel) ⟨Nat.le_of_ble_eq_true rfl, Nat.le_of_ble_eq_true rfl⟩, hts (.instanceMethod yX4_putHydrant) (by decide +kernel), hts (.selects RX4 yX4_putHydrant yX4_putHydrant) (by decide +kernel)⟩ (st_recv hO hP) hP hO rfl hl.1 (Nat.le_of_ble_eq_true rfl) dX3_doTurn_108 ⟨Nat.le_of_ble_eq_true rfl, Nat.le_of_ble_eq_true rfl⟩) hS hA (fun H locs hP1 hz hk hS => ?_)
      have hP : Str G a ((h_X4_putHydrant S ((r / 8) - (r / 8) / 80 * 80) 1).2) H := hP1
      refine lv_pop hx hb dX3_doTurn_111 rfl ?_
      refine lv_goto (tgt := 134) hx hb dX3_doTurn_112 (by decide) ?_
      have hE : h_X3_doTurn S r = (h_X4_putHydrant S ((r / 8) - (r / 8) / 80 * 80) 1).2 := (by rw [h_X3_doTurn, if_neg c_1, if_neg c_2, if_neg c_3, if_neg c_4, if_pos c_5, if_neg c_6])
      exact W.vret hx hb hr (fun t ht hW => ⟨rfl, by rw [ht, hE]; exact hP, hS.F ht⟩) hS.2.2 dX3_doTurn_134
  by_cases c_7 : (r - r / 8 * 8) = 5
  · refine lv_tableIn (off := 101) (tgt := 115) hx hb dX3_doTurn_14 (by rw [c_7]; decide) (by rw [c_7]; decide) (by rw [c_7]; decide +kernel) (by decide) ?_
    refine lv_iload_n hx hb dX3_doTurn_115 rfl (lv_at hl 0 rfl) ?_
    refine lv_aload_n hx hb dX3_doTurn_116 rfl (lv_at hl 2 rfl) ?_
    refine cl_mv (rS (As := [.int (r / 8), .ref a]) (rest := []) ⟨hx, hb, hml, hown, hts⟩ (c_X3_changeRuleOrRoom l G a S (r / 8)) (va_cwS 2 hts gX3_doTurn_X3_changeRuleOrRoom rfl rfl rfl (by decide +kernel) ⟨Nat.le_of_ble_eq_true rfl, Nat.le_of_ble_eq_true rfl⟩) hP hO rfl hl.1 (Nat.le_of_ble_eq_true rfl) dX3_doTurn_117 ⟨Nat.le_of_ble_eq_true rfl, Nat.le_of_ble_eq_true rfl⟩) hS hA (fun H locs hP1 hz hk hS => ?_)
    have hP : Str G a (h_X3_changeRuleOrRoom S (r / 8)) H := hP1
    refine lv_goto (tgt := 134) hx hb dX3_doTurn_120 (by decide) ?_
    have hE : h_X3_doTurn S r = (h_X3_changeRuleOrRoom S (r / 8)) := (by rw [h_X3_doTurn, if_neg c_1, if_neg c_2, if_neg c_3, if_neg c_4, if_neg c_5, if_pos c_7])
    exact W.vret hx hb hr (fun t ht hW => ⟨rfl, by rw [ht, hE]; exact hP, hS.F ht⟩) hS.2.2 dX3_doTurn_134
  refine lv_tableOut (tgt := 123) hx hb dX3_doTurn_14 (tab_6 c_1 c_2 c_3 c_4 c_5 c_7) (by decide) ?_
  refine lv_aload_n hx hb dX3_doTurn_123 rfl (lv_at hl 2 rfl) ?_
  refine lv_iconst (v := 1) hx hb dX3_doTurn_124 (by decide) ?_
  refine lv_iload_n hx hb dX3_doTurn_125 rfl (lv_at hl 0 rfl) ?_
  refine lv_bipush (v := 9) hx hb dX3_doTurn_126 (by decide) ?_
  refine lv_irem hx hb dX3_doTurn_128 (by decide) ?_
  refine lv_iadd hx hb dX3_doTurn_129 ?_
  refine cl_mi (rVN (As := [.int (1 + ((r / 8) - (r / 8) / 9 * 9))]) (rest := []) ⟨hx, hb, hml, hown, hts⟩ (c_X4_passMinutes l G a S (1 + ((r / 8) - (r / 8) / 9 * 9))) ⟨va_cnB 1 hts gX3_doTurn_X4_passMinutes_n28 rfl rfl rfl (hO.2 _ (List.mem_of_getElem? (i := 97) rfl)) (hts (.initialized RX4) (by decide +kernel)) (by decide +kernel) ⟨Nat.le_of_ble_eq_true rfl, Nat.le_of_ble_eq_true rfl⟩, hts (.instanceMethod yX4_passMinutes) (by decide +kernel), hts (.selects RX4 yX4_passMinutes yX4_passMinutes) (by decide +kernel)⟩ (st_recv hO hP) hP hO rfl hl.1 (Nat.le_of_ble_eq_true rfl) dX3_doTurn_130 ⟨Nat.le_of_ble_eq_true rfl, Nat.le_of_ble_eq_true rfl⟩) hS hA (fun H locs hP1 hz hk hS => ?_)
  have hP : Str G a ((h_X4_passMinutes S (1 + ((r / 8) - (r / 8) / 9 * 9))).2) H := hP1
  refine lv_pop hx hb dX3_doTurn_133 rfl ?_
  have hE : h_X3_doTurn S r = (h_X4_passMinutes S (1 + ((r / 8) - (r / 8) / 9 * 9))).2 := (by rw [h_X3_doTurn, if_neg c_1, if_neg c_2, if_neg c_3, if_neg c_4, if_neg c_5, if_neg c_7])
  exact W.vret hx hb hr (fun t ht hW => ⟨rfl, by rw [ht, hE]; exact hP, hS.F ht⟩) hS.2.2 dX3_doTurn_134
