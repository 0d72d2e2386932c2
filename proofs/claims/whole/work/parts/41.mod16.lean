theorem cl2_at : ∀ (n k : Nat) (g : Rw) (i : Nat), k ≤ 80 → k + n = 81 → lp_cl2 n k g i = if i = 6 then 1 else if i = 4 then 5 else if i = 3 then 1 else if 7 + k ≤ i ∧ i < 87 then -1 else g i := by
  intro n
  induction n with
  | zero => intro k g i h1 h2; omega
  | succ n ih =>
    intro k g i h1 h2
    rw [lp_cl2]
    by_cases c1 : (80 : Int32) ≤ nI k
    · rw [if_pos c1]
      have hk : k = 80 := by
        have := (nI_leI (a := 80) (by omega) (by omega)).mp c1
        omega
      simp only [upd]
      repeat' split
      all_goals first | rfl | omega
    · rw [if_neg c1]
      have hlt : k < 80 := kN (B := 80) c1 (by omega) (by omega)
      rw [ih (k + 1) _ i (by omega) (by omega)]
      by_cases e : i = 7 + k
      · subst e
        rw [pk_us]
        repeat' split
        all_goals first | rfl | omega
      · rw [pk_un e]
        repeat' split
        all_goals first | rfl | omega
theorem cl1_at : ∀ (n k : Nat) (g : Rw) (i : Nat), k ≤ 327 → k + n = 328 → (∀ u, u < k → g u = 0) → i < 327 → lp_cl1 n k g i = if i = 6 then 1 else if i = 4 then 5 else if i = 3 then 1 else if 7 ≤ i ∧ i < 87 then -1 else 0 := by
  intro n
  induction n with
  | zero => intro k g i h1 h2; omega
  | succ n ih =>
    intro k g i h1 h2 h3 hi
    rw [lp_cl1]
    by_cases c1 : (327 : Int32) ≤ nI k
    · rw [if_pos c1]
      have hk : k = 327 := by
        have := (nI_leI (a := 327) (by omega) (by omega)).mp c1
        omega
      rw [cl2_at _ 0 g i (by omega) (by omega), h3 i (by omega)]
      repeat' split
      all_goals first | rfl | omega
    · rw [if_neg c1]
      have hlt : k < 327 := kN (B := 327) c1 (by omega) (by omega)
      refine ih (k + 1) _ i (by omega) (by omega) (fun u hu => ?_) hi
      by_cases e : u = k
      · rw [e, pk_us]
      · rw [pk_un e]
        exact h3 u (by omega)
theorem clr_at (g : Rw) {i : Nat} (hi : i < 327) : h_X7_clear g i = if i = 6 then 1 else if i = 4 then 5 else if i = 3 then 1 else if 7 ≤ i ∧ i < 87 then -1 else 0 := cl1_at _ 0 g i (by omega) (by omega) (fun u hu => by omega) hi
theorem RI_clear (g : Rw) : RI (h_X7_clear g) := by
  have e0 : h_X7_clear g 0 = 0 := by rw [clr_at g (by omega)]; rfl
  refine ⟨⟨0, by omega, e0⟩, ⟨1, by omega, by rw [clr_at g (by omega)]; rfl⟩, fun c hc => ?_⟩
  rw [gm, e0, show (0 : Int32).toNatClampNeg = 0 from rfl] at hc
  omega
theorem txt_TI {M : Mo} {g : Rw} (hz : mZ M = nI (zz M) ∧ zz M ≤ 120) (h0 : ¬ mZ M = 0) : TI (oS (oS (oO (oR M g) 0) 0) 1) := by
  have e : sp (oS (oS (oO (oR M g) 0) 0) 1) = 1 := rfl
  have e2 : zz (oS (oS (oO (oR M g) 0) 0) 1) = zz M := rfl
  have h1 : zz M ≠ 0 := fun z => h0 (by rw [hz.1, z]; rfl)
  refine ⟨by rw [e2]; exact hz.1, by rw [e2]; exact hz.2, by rw [e]; rfl, by rw [e, e2]; omega⟩

def lp_rText  : Nat → Mo → Int32 × Mo
  | 0, M2 => (-1, M2)
  | n + 1, M2 => if (mZ M2) ≤ (mS M2) then ((-1), M2) else
    if ((h_X7_readCommand M2).1) = 0 then (mS ((h_X7_readCommand M2).2), (h_X7_readCommand M2).2) else
    lp_rText n ((h_X7_readCommand M2).2)
def h_X7_readText (M : Mo) : Int32 × Mo :=
  if (mZ (oS (oO (oR M (h_X7_clear (mR M))) 0) 0)) = 0 then (0, (oS (oO (oR M (h_X7_clear (mR M))) 0) 0)) else
  if ((mT (oS (oO (oR M (h_X7_clear (mR M))) 0) 0)) 0) = 83 then lp_rText 122 (oS (oS (oO (oR M (h_X7_clear (mR M))) 0) 0) 1) else
  (0, (oS (oO (oR M (h_X7_clear (mR M))) 0) 0))
set_option maxHeartbeats 4000000 in
set_option maxRecDepth 100000 in
theorem c_X7_readText (l : Launch) (G : GG) (b : Nat) (M : Mo) (hZ0 : mZ M = nI (zz M) ∧ zz M ≤ 120) : Met l yX7_readText wsX7_readText ({ frames := 8, cells := 0, slots := 0, locals := 182 }) (PcH G [.ref b, .ref (b + 3)] (Md G b M)) (QM (some (.int ((h_X7_readText M).1))) (Md G b ((h_X7_readText M).2)) (blk b (b + 8))) 0 0 (blk b (b + 8)) := by
  refine metH (cc := cX7_readText) (maxL := 2) (ret := (some .int)) (by decide) rfl ?_
  intro p e s m below meth cd hx hb hr hml hown hts hlocks hP hO
  have hin7 : ∀ w ∈ u_ws RX7 TX7 12, w ∈ wsX7_readText := by decide +kernel
  have hf_7 := hts (.fieldLink RX7 7 "CurbCarsModel" "text" "[I") (by decide +kernel)
  have hf_134 := hts (.fieldLink RX7 134 "CurbCarsModel" "size" "I") (by decide +kernel)
  have hf_140 := hts (.fieldLink RX7 140 "CurbCarsModel" "spot" "I") (by decide +kernel)
  have hf_145 := hts (.fieldLink RX7 145 "CurbCarsModel" "out" "I") (by decide +kernel)
  have hA : ∀ q, (blk b (b + 8)) q → (blk b (b + 8)) q := fun _ h => h
  have hS : va_S (blk b (b + 8)) s.heap s.heap [] := va_S.rf
  have hl := lv_entry ([.ref b, .ref (b + 3)]) (n := 2) (Nat.le_of_ble_eq_true rfl)
  rw [lg_entry_eq]
  generalize (lg_sl ([.ref b, .ref (b + 3)]) ++ List.replicate (2 - (lg_sl ([.ref b, .ref (b + 3)])).length) Slot.unset).toArray = ls at hl ⊢
  have hl : lv_has ls 2 [(0, .ref b), (1, .ref (b + 3))] := hl
  have loop39 : ∀ (n : Nat)  (M2 : Mo), TI M2 → RI (mR M2) → zz M2 - sp M2 < n → h_X7_readText M = lp_rText  n M2 → ∀ (H : Heap) (locs : List Loc) (ls : Array Slot), Md G b M2 H → va_S (blk b (b + 8)) s.heap H locs → lv_has ls 2 [(0, .ref b), (1, .ref (b + 3))] → W p l e (headSpec wsX7_readText ({ frames := 8, cells := 0, slots := 0, locals := 182 } : Room)).room s m ([.ref b, .ref (b + 3)] : List Value).toArray below meth cd H locs 0 0 (MQ below (QM (some (.int ((h_X7_readText M).1))) (Md G b ((h_X7_readText M).2)) (blk b (b + 8))) ([.ref b, .ref (b + 3)] : List Value).toArray s 0 0 (blk b (b + 8))) (F0 m 39 ls []) := by
    intro n
    induction n with
    | zero =>
      intro M2 hTI hRI hn hR H locs ls hP hS hl
      exact absurd hn (by omega)
    | succ n ih =>
      intro M2 hTI hRI hn hR H locs ls hP hS hl
      refine lv_aload_n hx hb dX7_readText_39 rfl (lv_at hl 0 rfl) ?_
      refine va_get (D := G.1) (ci := 5) (v := .int (mS M2)) (C := RX7) (T := TX7) (N := 12) hx hb hts hin7 hown hO.1 hP 0 rfl rfl 10 (by decide) hf_140 (fun _ h9 => h9) rfl dX7_readText_40 ?_
      refine lv_aload_n hx hb dX7_readText_43 rfl (lv_at hl 0 rfl) ?_
      refine va_get (D := G.1) (ci := 5) (v := .int (mZ M2)) (C := RX7) (T := TX7) (N := 12) hx hb hts hin7 hown hO.1 hP 0 rfl rfl 2 (by decide) hf_134 (fun _ h9 => h9) rfl dX7_readText_44 ?_
      refine lv_icmp_ge (tgt := 63) hx hb dX7_readText_47 (by decide) (fun c_1 => ?_) (fun c_1 => ?_)
      · refine lv_iconst (v := -1) hx hb dX7_readText_63 (by decide) ?_
        have hE : h_X7_readText M = ((-1), M2) := (hR.trans (by rw [lp_rText, if_pos c_1]))
        have hE2 := snd_of hE
        exact W.iret hx hb hr (fun t ht hW => ⟨by rw [fst_of hE], by rw [ht, hE2]; exact hP, hS.F ht⟩) hS.2.2 dX7_readText_64
      · refine lv_aload_n hx hb dX7_readText_50 rfl (lv_at hl 0 rfl) ?_
        refine lv_aload_n hx hb dX7_readText_51 rfl (lv_at hl 1 rfl) ?_
        refine cl_mi (rV (As := [.ref (b + 3)]) (rest := []) ⟨hx, hb, hml, hown, hts⟩ (c_X7_readCommand l G b M2 hTI (hTI.lt (by assumption)) hRI) (cwV 1 hts gX7_readText_X7_readCommand rfl rfl rfl (by decide +kernel) ⟨Nat.le_of_ble_eq_true rfl, Nat.le_of_ble_eq_true rfl⟩) (md_recv hO hP) hP hO rfl hl.1 (Nat.le_of_ble_eq_true rfl) dX7_readText_52 ⟨Nat.le_of_ble_eq_true rfl, Nat.le_of_ble_eq_true rfl⟩) hS hA (fun H locs hP1 hz hk hS => ?_)
        have hP : Md G b ((h_X7_readCommand M2).2) H := hP1
        refine lv_if_ne (tgt := 39) hx hb dX7_readText_55 (by decide) (fun c_2 => ?_) (fun c_2 => ?_)
        · have hE_3 : h_X7_readText M = lp_rText n ((h_X7_readCommand M2).2) := (hR.trans (by rw [lp_rText, if_neg c_1, if_neg c_2]))
          exact ih ((h_X7_readCommand M2).2) (cmd_TI hTI (hTI.lt (by assumption)) (by assumption)).1 (cmd_ok hTI (hTI.lt (by assumption)) hRI) (by have h9 := (cmd_TI hTI (hTI.lt (by assumption)) (by assumption)).2; omega) hE_3 _ _ _ hP hS (lv_sub hl [0, 1] rfl)
        · refine lv_aload_n hx hb dX7_readText_58 rfl (lv_at hl 0 rfl) ?_
          refine va_get (D := G.1) (ci := 5) (v := .int (mS ((h_X7_readCommand M2).2))) (C := RX7) (T := TX7) (N := 12) hx hb hts hin7 hown hO.1 hP 0 rfl rfl 10 (by decide) hf_140 (fun _ h9 => h9) rfl dX7_readText_59 ?_
          have hE : h_X7_readText M = (mS ((h_X7_readCommand M2).2), (h_X7_readCommand M2).2) := (hR.trans (by rw [lp_rText, if_neg c_1, if_pos c_2]))
          have hE2 := snd_of hE
          exact W.iret hx hb hr (fun t ht hW => ⟨by rw [fst_of hE], by rw [ht, hE2]; exact hP, hS.F ht⟩) hS.2.2 dX7_readText_62
  refine lv_aload_n hx hb dX7_readText_0 rfl (lv_at hl 1 rfl) ?_
  refine cl_mv (rS (As := [.ref (b + 3)]) (rest := []) ⟨hx, hb, hml, hown, hts⟩ (c_X7_clear l G (b + 3) (mR M)) (va_cwS 1 hts gX7_readText_X7_clear rfl rfl rfl (by decide +kernel) ⟨Nat.le_of_ble_eq_true rfl, Nat.le_of_ble_eq_true rfl⟩) (va_P.sub hP [3] rfl) hO rfl hl.1 (Nat.le_of_ble_eq_true rfl) dX7_readText_1 ⟨Nat.le_of_ble_eq_true rfl, Nat.le_of_ble_eq_true rfl⟩) hS (fun q h => hA q (by simp only [one, blk] at *; omega)) (fun H locs hP1 hz hk hS => ?_)
  have hP : Md G b (oR M (h_X7_clear (mR M))) H := md_pR (mo_row 3 hP rfl hP1 hk)
  refine lv_aload_n hx hb dX7_readText_4 rfl (lv_at hl 0 rfl) ?_
  refine lv_iconst (v := 0) hx hb dX7_readText_5 (by decide) ?_
  refine va_put (D := G.1) (ci := 5) (v := .int 0) (ty := .int) (C := RX7) (T := TX7) (N := 12) hx hb hts hin7 tyX7 tyX7_ok nmX7 hown hO.1 hP (md_D b (oR M (h_X7_clear (mR M))) hA) hS 0 rfl rfl 11 (by decide) hf_145 (fun _ h9 => h9) rfl (by decide +kernel) rfl rfl (Nat.le_of_ble_eq_true rfl) dX7_readText_6 (fun H locs hP hD hS => ?_)
  have hP : Md G b (oO (oR M (h_X7_clear (mR M))) 0) H := md_pO hP
  refine lv_aload_n hx hb dX7_readText_9 rfl (lv_at hl 0 rfl) ?_
  refine lv_iconst (v := 0) hx hb dX7_readText_10 (by decide) ?_
  refine va_put (D := G.1) (ci := 5) (v := .int 0) (ty := .int) (C := RX7) (T := TX7) (N := 12) hx hb hts hin7 tyX7 tyX7_ok nmX7 hown hO.1 hP (md_D b (oO (oR M (h_X7_clear (mR M))) 0) hA) hS 0 rfl rfl 10 (by decide) hf_140 (fun _ h9 => h9) rfl (by decide +kernel) rfl rfl (Nat.le_of_ble_eq_true rfl) dX7_readText_11 (fun H locs hP hD hS => ?_)
  have hP : Md G b (oS (oO (oR M (h_X7_clear (mR M))) 0) 0) H := md_pS hP
  refine lv_aload_n hx hb dX7_readText_14 rfl (lv_at hl 0 rfl) ?_
  refine va_get (D := G.1) (ci := 5) (v := .int (mZ (oS (oO (oR M (h_X7_clear (mR M))) 0) 0))) (C := RX7) (T := TX7) (N := 12) hx hb hts hin7 hown hO.1 hP 0 rfl rfl 2 (by decide) hf_134 (fun _ h9 => h9) rfl dX7_readText_15 ?_
  refine lv_if_eq (tgt := 32) hx hb dX7_readText_18 (by decide) (fun c_4 => ?_) (fun c_4 => ?_)
  · refine lv_iconst (v := 0) hx hb dX7_readText_32 (by decide) ?_
    have hE : h_X7_readText M = (0, (oS (oO (oR M (h_X7_clear (mR M))) 0) 0)) := (by rw [h_X7_readText, if_pos c_4])
    have hE2 := snd_of hE
    exact W.iret hx hb hr (fun t ht hW => ⟨by rw [fst_of hE], by rw [ht, hE2]; exact hP, hS.F ht⟩) hS.2.2 dX7_readText_33
  · refine lv_aload_n hx hb dX7_readText_21 rfl (lv_at hl 0 rfl) ?_
    refine va_get (D := G.1) (ci := 5) (v := .ref (b + 1)) (C := RX7) (T := TX7) (N := 12) hx hb hts hin7 hown hO.1 hP 0 rfl rfl 1 (by decide) hf_7 (fun _ h9 => h9) rfl dX7_readText_22 ?_
    refine lv_iconst (v := 0) hx hb dX7_readText_25 (by decide) ?_
    refine iald_n (k := 0) hx hb hO.1 hP 1 0 rfl rfl (by omega) (by decide) dX7_readText_26 ?_
    refine lv_bipush (v := 83) hx hb dX7_readText_27 (by decide) ?_
    refine lv_icmp_eq (tgt := 34) hx hb dX7_readText_29 (by decide) (fun c_5 => ?_) (fun c_5 => ?_)
    · refine lv_aload_n hx hb dX7_readText_34 rfl (lv_at hl 0 rfl) ?_
      refine lv_iconst (v := 1) hx hb dX7_readText_35 (by decide) ?_
      refine va_put (D := G.1) (ci := 5) (v := .int 1) (ty := .int) (C := RX7) (T := TX7) (N := 12) hx hb hts hin7 tyX7 tyX7_ok nmX7 hown hO.1 hP (md_D b (oS (oO (oR M (h_X7_clear (mR M))) 0) 0) hA) hS 0 rfl rfl 10 (by decide) hf_140 (fun _ h9 => h9) rfl (by decide +kernel) rfl rfl (Nat.le_of_ble_eq_true rfl) dX7_readText_36 (fun H locs hP hD hS => ?_)
      have hP : Md G b (oS (oS (oO (oR M (h_X7_clear (mR M))) 0) 0) 1) H := md_pS hP
      have hE_6 : h_X7_readText M = lp_rText 122 (oS (oS (oO (oR M (h_X7_clear (mR M))) 0) 0) 1) := (by rw [h_X7_readText, if_neg c_4, if_pos c_5])
      exact loop39 122 (oS (oS (oO (oR M (h_X7_clear (mR M))) 0) 0) 1) (txt_TI hZ0 (by assumption)) (RI_clear _) (by have h9 := hZ0.2; exact Nat.lt_of_le_of_lt (Nat.sub_le _ _) (Nat.lt_of_le_of_lt h9 (by omega))) hE_6 _ _ _ hP hS (lv_sub hl [0, 1] rfl)
    · refine lv_iconst (v := 0) hx hb dX7_readText_32 (by decide) ?_
      have hE : h_X7_readText M = (0, (oS (oO (oR M (h_X7_clear (mR M))) 0) 0)) := (by rw [h_X7_readText, if_neg c_4, if_neg c_5])
      have hE2 := snd_of hE
      exact W.iret hx hb hr (fun t ht hW => ⟨by rw [fst_of hE], by rw [ht, hE2]; exact hP, hS.F ht⟩) hS.2.2 dX7_readText_33

theorem txt_RI : ∀ (n : Nat) (M2 : Mo), TI M2 → RI (mR M2) → RI (mR (lp_rText n M2).2) := by
  intro n
  induction n with
  | zero => intro M2 _ h; exact h
  | succ n ih =>
    intro M2 hT h
    rw [lp_rText]
    by_cases c1 : mZ M2 ≤ mS M2
    · rw [if_pos c1]
      exact h
    · rw [if_neg c1]
      have hc := cmd_ok hT (hT.lt c1) h
      by_cases c2 : (h_X7_readCommand M2).1 = 0
      · first | rw [if_pos c2] | rw [if_neg (fun z => z c2)]
        exact hc
      · first | rw [if_neg c2] | rw [if_pos c2]
        exact ih _ (cmd_TI hT (hT.lt c1) c2).1 hc
set_option maxRecDepth 100000 in
theorem text_RI {M : Mo} (hZ0 : mZ M = nI (zz M) ∧ zz M ≤ 120) : RI (mR (h_X7_readText M).2) := by
  have r0 : RI (mR (oS (oO (oR M (h_X7_clear (mR M))) 0) 0)) := by
    rw [mR_oS, mR_oO, mR_oR]
    exact RI_clear _
  have r1 : RI (mR (oS (oS (oO (oR M (h_X7_clear (mR M))) 0) 0) 1)) := by
    rw [mR_oS]
    exact r0
  rw [h_X7_readText]
  by_cases q1 : (mZ (oS (oO (oR M (h_X7_clear (mR M))) 0) 0)) = 0
  · rw [if_pos q1]
    exact r0
  · rw [if_neg q1]
    by_cases q2 : ((mT (oS (oO (oR M (h_X7_clear (mR M))) 0) 0)) 0) = 83
    · rw [if_pos q2]
      exact txt_RI _ _ (txt_TI hZ0 q1) r1
    · rw [if_neg q2]
      exact r0

def h_X7_errorPosition (M : Mo) : Int32 × Mo :=
  ((h_X7_readText (oA M 0)).1, (h_X7_readText (oA M 0)).2)
set_option maxHeartbeats 4000000 in
set_option maxRecDepth 100000 in
theorem c_X7_errorPosition (l : Launch) (G : GG) (b : Nat) (M : Mo) (hZ0 : mZ M = nI (zz M) ∧ zz M ≤ 120) : Met l yX7_errorPosition wsX7_errorPosition ({ frames := 9, cells := 0, slots := 0, locals := 203 }) (PcH G [.ref b] (Md G b M)) (QM (some (.int ((h_X7_errorPosition M).1))) (Md G b ((h_X7_errorPosition M).2)) (blk b (b + 8))) 0 0 (blk b (b + 8)) := by
  refine metH (cc := cX7_errorPosition) (maxL := 1) (ret := (some .int)) (by decide) rfl ?_
  intro p e s m below meth cd hx hb hr hml hown hts hlocks hP hO
  have hin7 : ∀ w ∈ u_ws RX7 TX7 12, w ∈ wsX7_errorPosition := by decide +kernel
  have hf_16 := hts (.fieldLink RX7 16 "CurbCarsModel" "trial" "[I") (by decide +kernel)
  have hf_36 := hts (.fieldLink RX7 36 "CurbCarsModel" "refusal" "I") (by decide +kernel)
  have hA : ∀ q, (blk b (b + 8)) q → (blk b (b + 8)) q := fun _ h => h
  have hS : va_S (blk b (b + 8)) s.heap s.heap [] := va_S.rf
  have hl := lv_entry ([.ref b]) (n := 1) (Nat.le_of_ble_eq_true rfl)
  rw [lg_entry_eq]
  generalize (lg_sl ([.ref b]) ++ List.replicate (1 - (lg_sl ([.ref b])).length) Slot.unset).toArray = ls at hl ⊢
  have hl : lv_has ls 1 [(0, .ref b)] := hl
  refine lv_aload_n hx hb dX7_errorPosition_0 rfl (lv_at hl 0 rfl) ?_
  refine lv_iconst (v := 0) hx hb dX7_errorPosition_1 (by decide) ?_
  refine va_put (D := G.1) (ci := 5) (v := .int 0) (ty := .int) (C := RX7) (T := TX7) (N := 12) hx hb hts hin7 tyX7 tyX7_ok nmX7 hown hO.1 hP (md_D b M hA) hS 0 rfl rfl 0 (by decide) hf_36 (fun _ h9 => h9) rfl (by decide +kernel) rfl rfl (Nat.le_of_ble_eq_true rfl) dX7_errorPosition_2 (fun H locs hP hD hS => ?_)
  have hP : Md G b (oA M 0) H := md_pA hP
  refine lv_aload_n hx hb dX7_errorPosition_5 rfl (lv_at hl 0 rfl) ?_
  refine lv_aload_n hx hb dX7_errorPosition_6 rfl (lv_at hl 0 rfl) ?_
  refine va_get (D := G.1) (ci := 5) (v := .ref (b + 3)) (C := RX7) (T := TX7) (N := 12) hx hb hts hin7 hown hO.1 hP 0 rfl rfl 4 (by decide) hf_16 (fun _ h9 => h9) rfl dX7_errorPosition_7 ?_
  refine cl_mi (rV (As := [.ref (b + 3)]) (rest := []) ⟨hx, hb, hml, hown, hts⟩ (c_X7_readText l G b (oA M 0) hZ0) (cwV 1 hts gX7_errorPosition_X7_readText rfl rfl rfl (by decide +kernel) ⟨Nat.le_of_ble_eq_true rfl, Nat.le_of_ble_eq_true rfl⟩) (md_recv hO hP) hP hO rfl hl.1 (Nat.le_of_ble_eq_true rfl) dX7_errorPosition_10 ⟨Nat.le_of_ble_eq_true rfl, Nat.le_of_ble_eq_true rfl⟩) hS hA (fun H locs hP1 hz hk hS => ?_)
  have hP : Md G b ((h_X7_readText (oA M 0)).2) H := hP1
  have hE : h_X7_errorPosition M = ((h_X7_readText (oA M 0)).1, (h_X7_readText (oA M 0)).2) := (by rw [h_X7_errorPosition])
  have hE2 := snd_of hE
  exact W.iret hx hb hr (fun t ht hW => ⟨by rw [fst_of hE], by rw [ht, hE2]; exact hP, hS.F ht⟩) hS.2.2 dX7_errorPosition_13

def h_X7_load (M : Mo) : Int32 × Mo :=
  if ((h_X7_readText M).1) = (-1) then (mO (oI (oI (oC (oN ((h_X7_refused ((h_X7_readText M).2) 0).2) (h_X7_copyState (mR ((h_X7_refused ((h_X7_readText M).2) 0).2)) (mN ((h_X7_refused ((h_X7_readText M).2) 0).2)) 0 0)) 0) (upd (mI (oC (oN ((h_X7_refused ((h_X7_readText M).2) 0).2) (h_X7_copyState (mR ((h_X7_refused ((h_X7_readText M).2) 0).2)) (mN ((h_X7_refused ((h_X7_readText M).2) 0).2)) 0 0)) 0)) (0 : Int32).toNatClampNeg (vp_nar .boolean 0))) (upd (mI (oI (oC (oN ((h_X7_refused ((h_X7_readText M).2) 0).2) (h_X7_copyState (mR ((h_X7_refused ((h_X7_readText M).2) 0).2)) (mN ((h_X7_refused ((h_X7_readText M).2) 0).2)) 0 0)) 0) (upd (mI (oC (oN ((h_X7_refused ((h_X7_readText M).2) 0).2) (h_X7_copyState (mR ((h_X7_refused ((h_X7_readText M).2) 0).2)) (mN ((h_X7_refused ((h_X7_readText M).2) 0).2)) 0 0)) 0)) (0 : Int32).toNatClampNeg (vp_nar .boolean 0)))) (1 : Int32).toNatClampNeg (vp_nar .boolean 0))), (oI (oI (oC (oN ((h_X7_refused ((h_X7_readText M).2) 0).2) (h_X7_copyState (mR ((h_X7_refused ((h_X7_readText M).2) 0).2)) (mN ((h_X7_refused ((h_X7_readText M).2) 0).2)) 0 0)) 0) (upd (mI (oC (oN ((h_X7_refused ((h_X7_readText M).2) 0).2) (h_X7_copyState (mR ((h_X7_refused ((h_X7_readText M).2) 0).2)) (mN ((h_X7_refused ((h_X7_readText M).2) 0).2)) 0 0)) 0)) (0 : Int32).toNatClampNeg (vp_nar .boolean 0))) (upd (mI (oI (oC (oN ((h_X7_refused ((h_X7_readText M).2) 0).2) (h_X7_copyState (mR ((h_X7_refused ((h_X7_readText M).2) 0).2)) (mN ((h_X7_refused ((h_X7_readText M).2) 0).2)) 0 0)) 0) (upd (mI (oC (oN ((h_X7_refused ((h_X7_readText M).2) 0).2) (h_X7_copyState (mR ((h_X7_refused ((h_X7_readText M).2) 0).2)) (mN ((h_X7_refused ((h_X7_readText M).2) 0).2)) 0 0)) 0)) (0 : Int32).toNatClampNeg (vp_nar .boolean 0)))) (1 : Int32).toNatClampNeg (vp_nar .boolean 0)))) else
  (0, (h_X7_refused ((h_X7_readText M).2) 1).2)
set_option maxHeartbeats 4000000 in
set_option maxRecDepth 100000 in
theorem c_X7_load (l : Launch) (G : GG) (b : Nat) (M : Mo) (hZ0 : mZ M = nI (zz M) ∧ zz M ≤ 120) : Met l yX7_load wsX7_load ({ frames := 9, cells := 0, slots := 0, locals := 203 }) (PcH G [.ref b] (Md G b M)) (QM (some (.int ((h_X7_load M).1))) (Md G b ((h_X7_load M).2)) (blk b (b + 8))) 0 0 (blk b (b + 8)) := by
  refine metH (cc := cX7_load) (maxL := 1) (ret := (some .int)) (by decide) rfl ?_
  intro p e s m below meth cd hx hb hr hml hown hts hlocks hP hO
  have hin7 : ∀ w ∈ u_ws RX7 TX7 12, w ∈ wsX7_load := by decide +kernel
  have hf_13 := hts (.fieldLink RX7 13 "CurbCarsModel" "now" "[I") (by decide +kernel)
  have hf_16 := hts (.fieldLink RX7 16 "CurbCarsModel" "trial" "[I") (by decide +kernel)
  have hf_28 := hts (.fieldLink RX7 28 "CurbCarsModel" "isKept" "[Z") (by decide +kernel)
  have hf_145 := hts (.fieldLink RX7 145 "CurbCarsModel" "out" "I") (by decide +kernel)
  have hf_202 := hts (.fieldLink RX7 202 "CurbCarsModel" "acts" "I") (by decide +kernel)
  have hA : ∀ q, (blk b (b + 8)) q → (blk b (b + 8)) q := fun _ h => h
  have hS : va_S (blk b (b + 8)) s.heap s.heap [] := va_S.rf
  have hl := lv_entry ([.ref b]) (n := 1) (Nat.le_of_ble_eq_true rfl)
  rw [lg_entry_eq]
  generalize (lg_sl ([.ref b]) ++ List.replicate (1 - (lg_sl ([.ref b])).length) Slot.unset).toArray = ls at hl ⊢
  have hl : lv_has ls 1 [(0, .ref b)] := hl
  refine lv_aload_n hx hb dX7_load_0 rfl (lv_at hl 0 rfl) ?_
  refine lv_aload_n hx hb dX7_load_1 rfl (lv_at hl 0 rfl) ?_
  refine lv_aload_n hx hb dX7_load_2 rfl (lv_at hl 0 rfl) ?_
  refine va_get (D := G.1) (ci := 5) (v := .ref (b + 3)) (C := RX7) (T := TX7) (N := 12) hx hb hts hin7 hown hO.1 hP 0 rfl rfl 4 (by decide) hf_16 (fun _ h9 => h9) rfl dX7_load_3 ?_
  refine cl_mi (rV (As := [.ref (b + 3)]) (rest := [.ref b]) ⟨hx, hb, hml, hown, hts⟩ (c_X7_readText l G b M hZ0) (cwV 1 hts gX7_load_X7_readText rfl rfl rfl (by decide +kernel) ⟨Nat.le_of_ble_eq_true rfl, Nat.le_of_ble_eq_true rfl⟩) (md_recv hO hP) hP hO rfl hl.1 (Nat.le_of_ble_eq_true rfl) dX7_load_6 ⟨Nat.le_of_ble_eq_true rfl, Nat.le_of_ble_eq_true rfl⟩) hS hA (fun H locs hP1 hz hk hS => ?_)
  have hP : Md G b ((h_X7_readText M).2) H := hP1
  refine lv_iconst (v := -1) hx hb dX7_load_9 (by decide) ?_
  refine lv_icmp_ne (tgt := 17) hx hb dX7_load_10 (by decide) (fun c_1 => ?_) (fun c_1 => ?_)
  · refine lv_iconst (v := 1) hx hb dX7_load_17 (by decide) ?_
    refine cl_mi (rV (As := [.int 1]) (rest := []) ⟨hx, hb, hml, hown, hts⟩ (c_X7_refused l G b ((h_X7_readText M).2) 1) (cwV 1 hts gX7_load_X7_refused rfl rfl rfl (by decide +kernel) ⟨Nat.le_of_ble_eq_true rfl, Nat.le_of_ble_eq_true rfl⟩) (md_recv hO hP) hP hO rfl hl.1 (Nat.le_of_ble_eq_true rfl) dX7_load_18 ⟨Nat.le_of_ble_eq_true rfl, Nat.le_of_ble_eq_true rfl⟩) hS hA (fun H locs hP1 hz hk hS => ?_)
    have hP : Md G b ((h_X7_refused ((h_X7_readText M).2) 1).2) H := hP1
    refine lv_if_eq (tgt := 26) hx hb dX7_load_21 (by decide) (fun c_2 => ?_) (fun c_2 => ?_)
    · exact absurd c_2 (ref_p1 _)
    · refine lv_iconst (v := 0) hx hb dX7_load_24 (by decide) ?_
      have hE : h_X7_load M = (0, (h_X7_refused ((h_X7_readText M).2) 1).2) := (by rw [h_X7_load, if_neg c_1])
      have hE2 := snd_of hE
      exact W.iret hx hb hr (fun t ht hW => ⟨by rw [fst_of hE], by rw [ht, hE2]; exact hP, hS.F ht⟩) hS.2.2 dX7_load_25
  · refine lv_iconst (v := 0) hx hb dX7_load_13 (by decide) ?_
    refine lv_goto (tgt := 18) hx hb dX7_load_14 (by decide) ?_
    refine cl_mi (rV (As := [.int 0]) (rest := []) ⟨hx, hb, hml, hown, hts⟩ (c_X7_refused l G b ((h_X7_readText M).2) 0) (cwV 1 hts gX7_load_X7_refused rfl rfl rfl (by decide +kernel) ⟨Nat.le_of_ble_eq_true rfl, Nat.le_of_ble_eq_true rfl⟩) (md_recv hO hP) hP hO rfl hl.1 (Nat.le_of_ble_eq_true rfl) dX7_load_18 ⟨Nat.le_of_ble_eq_true rfl, Nat.le_of_ble_eq_true rfl⟩) hS hA (fun H locs hP1 hz hk hS => ?_)
    have hP : Md G b ((h_X7_refused ((h_X7_readText M).2) 0).2) H := hP1
    refine lv_if_eq (tgt := 26) hx hb dX7_load_21 (by decide) (fun c_3 => ?_) (fun c_3 => ?_)
    · refine lv_aload_n hx hb dX7_load_26 rfl (lv_at hl 0 rfl) ?_
      refine va_get (D := G.1) (ci := 5) (v := .ref (b + 3)) (C := RX7) (T := TX7) (N := 12) hx hb hts hin7 hown hO.1 hP 0 rfl rfl 4 (by decide) hf_16 (fun _ h9 => h9) rfl dX7_load_27 ?_
      refine lv_iconst (v := 0) hx hb dX7_load_30 (by decide) ?_
      refine lv_aload_n hx hb dX7_load_31 rfl (lv_at hl 0 rfl) ?_
      refine va_get (D := G.1) (ci := 5) (v := .ref (b + 2)) (C := RX7) (T := TX7) (N := 12) hx hb hts hin7 hown hO.1 hP 0 rfl rfl 3 (by decide) hf_13 (fun _ h9 => h9) rfl dX7_load_32 ?_
      refine lv_iconst (v := 0) hx hb dX7_load_35 (by decide) ?_
      refine cl_mv (rS (As := [.ref (b + 3), .int 0, .ref (b + 2), .int 0]) (rest := []) ⟨hx, hb, hml, hown, hts⟩ (c_X7_copyState l G (b + 3) 327 (mR ((h_X7_refused ((h_X7_readText M).2) 0).2)) (b + 2) 327 (mN ((h_X7_refused ((h_X7_readText M).2) 0).2)) 0 0 (by omega) (by omega) (by decide) (by decide) (by omega)) (va_cwS 4 hts gX7_load_X7_copyState rfl rfl rfl (by decide +kernel) ⟨Nat.le_of_ble_eq_true rfl, Nat.le_of_ble_eq_true rfl⟩) (va_P.sub hP [3, 2] rfl) hO rfl hl.1 (Nat.le_of_ble_eq_true rfl) dX7_load_36 ⟨Nat.le_of_ble_eq_true rfl, Nat.le_of_ble_eq_true rfl⟩) hS (fun q h => hA q (by simp only [two, blk] at *; omega)) (fun H locs hP1 hz hk hS => ?_)
      have hP : Md G b (oN ((h_X7_refused ((h_X7_readText M).2) 0).2) (h_X7_copyState (mR ((h_X7_refused ((h_X7_readText M).2) 0).2)) (mN ((h_X7_refused ((h_X7_readText M).2) 0).2)) 0 0)) H := md_pN (two_row 3 2 hP (md_D b ((h_X7_refused ((h_X7_readText M).2) 0).2) hA) rfl rfl hP1 hk)
      refine lv_aload_n hx hb dX7_load_39 rfl (lv_at hl 0 rfl) ?_
      refine lv_iconst (v := 0) hx hb dX7_load_40 (by decide) ?_
      refine va_put (D := G.1) (ci := 5) (v := .int 0) (ty := .int) (C := RX7) (T := TX7) (N := 12) hx hb hts hin7 tyX7 tyX7_ok nmX7 hown hO.1 hP (md_D b (oN ((h_X7_refused ((h_X7_readText M).2) 0).2) (h_X7_copyState (mR ((h_X7_refused ((h_X7_readText M).2) 0).2)) (mN ((h_X7_refused ((h_X7_readText M).2) 0).2)) 0 0)) hA) hS 0 rfl rfl 7 (by decide) hf_202 (fun _ h9 => h9) rfl (by decide +kernel) rfl rfl (Nat.le_of_ble_eq_true rfl) dX7_load_41 (fun H locs hP hD hS => ?_)
      have hP : Md G b (oC (oN ((h_X7_refused ((h_X7_readText M).2) 0).2) (h_X7_copyState (mR ((h_X7_refused ((h_X7_readText M).2) 0).2)) (mN ((h_X7_refused ((h_X7_readText M).2) 0).2)) 0 0)) 0) H := md_pC hP
      refine lv_aload_n hx hb dX7_load_44 rfl (lv_at hl 0 rfl) ?_
      refine va_get (D := G.1) (ci := 5) (v := .ref (b + 7)) (C := RX7) (T := TX7) (N := 12) hx hb hts hin7 hown hO.1 hP 0 rfl rfl 9 (by decide) hf_28 (fun _ h9 => h9) rfl dX7_load_45 ?_
      refine lv_iconst (v := 0) hx hb dX7_load_48 (by decide) ?_
      refine lv_iconst (v := 0) hx hb dX7_load_49 (by decide) ?_
      refine va_zast hx hb hO.1 hP (md_D b (oC (oN ((h_X7_refused ((h_X7_readText M).2) 0).2) (h_X7_copyState (mR ((h_X7_refused ((h_X7_readText M).2) 0).2)) (mN ((h_X7_refused ((h_X7_readText M).2) 0).2)) 0 0)) 0) hA) hS 7 2 rfl rfl (by unfold vp_in; decide) dX7_load_50 (fun H locs hP hD hS => ?_)
      have hP : Md G b (oI (oC (oN ((h_X7_refused ((h_X7_readText M).2) 0).2) (h_X7_copyState (mR ((h_X7_refused ((h_X7_readText M).2) 0).2)) (mN ((h_X7_refused ((h_X7_readText M).2) 0).2)) 0 0)) 0) (upd (mI (oC (oN ((h_X7_refused ((h_X7_readText M).2) 0).2) (h_X7_copyState (mR ((h_X7_refused ((h_X7_readText M).2) 0).2)) (mN ((h_X7_refused ((h_X7_readText M).2) 0).2)) 0 0)) 0)) (0 : Int32).toNatClampNeg (vp_nar .boolean 0))) H := md_pI hP
      refine lv_aload_n hx hb dX7_load_51 rfl (lv_at hl 0 rfl) ?_
      refine va_get (D := G.1) (ci := 5) (v := .ref (b + 7)) (C := RX7) (T := TX7) (N := 12) hx hb hts hin7 hown hO.1 hP 0 rfl rfl 9 (by decide) hf_28 (fun _ h9 => h9) rfl dX7_load_52 ?_
      refine lv_iconst (v := 1) hx hb dX7_load_55 (by decide) ?_
      refine lv_iconst (v := 0) hx hb dX7_load_56 (by decide) ?_
      refine va_zast hx hb hO.1 hP (md_D b (oI (oC (oN ((h_X7_refused ((h_X7_readText M).2) 0).2) (h_X7_copyState (mR ((h_X7_refused ((h_X7_readText M).2) 0).2)) (mN ((h_X7_refused ((h_X7_readText M).2) 0).2)) 0 0)) 0) (upd (mI (oC (oN ((h_X7_refused ((h_X7_readText M).2) 0).2) (h_X7_copyState (mR ((h_X7_refused ((h_X7_readText M).2) 0).2)) (mN ((h_X7_refused ((h_X7_readText M).2) 0).2)) 0 0)) 0)) (0 : Int32).toNatClampNeg (vp_nar .boolean 0))) hA) hS 7 2 rfl rfl (by unfold vp_in; decide) dX7_load_57 (fun H locs hP hD hS => ?_)
      have hP : Md G b (oI (oI (oC (oN ((h_X7_refused ((h_X7_readText M).2) 0).2) (h_X7_copyState (mR ((h_X7_refused ((h_X7_readText M).2) 0).2)) (mN ((h_X7_refused ((h_X7_readText M).2) 0).2)) 0 0)) 0) (upd (mI (oC (oN ((h_X7_refused ((h_X7_readText M).2) 0).2) (h_X7_copyState (mR ((h_X7_refused ((h_X7_readText M).2) 0).2)) (mN ((h_X7_refused ((h_X7_readText M).2) 0).2)) 0 0)) 0)) (0 : Int32).toNatClampNeg (vp_nar .boolean 0))) (upd (mI (oI (oC (oN ((h_X7_refused ((h_X7_readText M).2) 0).2) (h_X7_copyState (mR ((h_X7_refused ((h_X7_readText M).2) 0).2)) (mN ((h_X7_refused ((h_X7_readText M).2) 0).2)) 0 0)) 0) (upd (mI (oC (oN ((h_X7_refused ((h_X7_readText M).2) 0).2) (h_X7_copyState (mR ((h_X7_refused ((h_X7_readText M).2) 0).2)) (mN ((h_X7_refused ((h_X7_readText M).2) 0).2)) 0 0)) 0)) (0 : Int32).toNatClampNeg (vp_nar .boolean 0)))) (1 : Int32).toNatClampNeg (vp_nar .boolean 0))) H := md_pI hP
      refine lv_aload_n hx hb dX7_load_58 rfl (lv_at hl 0 rfl) ?_
      refine va_get (D := G.1) (ci := 5) (v := .int (mO (oI (oI (oC (oN ((h_X7_refused ((h_X7_readText M).2) 0).2) (h_X7_copyState (mR ((h_X7_refused ((h_X7_readText M).2) 0).2)) (mN ((h_X7_refused ((h_X7_readText M).2) 0).2)) 0 0)) 0) (upd (mI (oC (oN ((h_X7_refused ((h_X7_readText M).2) 0).2) (h_X7_copyState (mR ((h_X7_refused ((h_X7_readText M).2) 0).2)) (mN ((h_X7_refused ((h_X7_readText M).2) 0).2)) 0 0)) 0)) (0 : Int32).toNatClampNeg (vp_nar .boolean 0))) (upd (mI (oI (oC (oN ((h_X7_refused ((h_X7_readText M).2) 0).2) (h_X7_copyState (mR ((h_X7_refused ((h_X7_readText M).2) 0).2)) (mN ((h_X7_refused ((h_X7_readText M).2) 0).2)) 0 0)) 0) (upd (mI (oC (oN ((h_X7_refused ((h_X7_readText M).2) 0).2) (h_X7_copyState (mR ((h_X7_refused ((h_X7_readText M).2) 0).2)) (mN ((h_X7_refused ((h_X7_readText M).2) 0).2)) 0 0)) 0)) (0 : Int32).toNatClampNeg (vp_nar .boolean 0)))) (1 : Int32).toNatClampNeg (vp_nar .boolean 0))))) (C := RX7) (T := TX7) (N := 12) hx hb hts hin7 hown hO.1 hP 0 rfl rfl 11 (by decide) hf_145 (fun _ h9 => h9) rfl dX7_load_59 ?_
      have hE : h_X7_load M = (mO (oI (oI (oC (oN ((h_X7_refused ((h_X7_readText M).2) 0).2) (h_X7_copyState (mR ((h_X7_refused ((h_X7_readText M).2) 0).2)) (mN ((h_X7_refused ((h_X7_readText M).2) 0).2)) 0 0)) 0) (upd (mI (oC (oN ((h_X7_refused ((h_X7_readText M).2) 0).2) (h_X7_copyState (mR ((h_X7_refused ((h_X7_readText M).2) 0).2)) (mN ((h_X7_refused ((h_X7_readText M).2) 0).2)) 0 0)) 0)) (0 : Int32).toNatClampNeg (vp_nar .boolean 0))) (upd (mI (oI (oC (oN ((h_X7_refused ((h_X7_readText M).2) 0).2) (h_X7_copyState (mR ((h_X7_refused ((h_X7_readText M).2) 0).2)) (mN ((h_X7_refused ((h_X7_readText M).2) 0).2)) 0 0)) 0) (upd (mI (oC (oN ((h_X7_refused ((h_X7_readText M).2) 0).2) (h_X7_copyState (mR ((h_X7_refused ((h_X7_readText M).2) 0).2)) (mN ((h_X7_refused ((h_X7_readText M).2) 0).2)) 0 0)) 0)) (0 : Int32).toNatClampNeg (vp_nar .boolean 0)))) (1 : Int32).toNatClampNeg (vp_nar .boolean 0))), (oI (oI (oC (oN ((h_X7_refused ((h_X7_readText M).2) 0).2) (h_X7_copyState (mR ((h_X7_refused ((h_X7_readText M).2) 0).2)) (mN ((h_X7_refused ((h_X7_readText M).2) 0).2)) 0 0)) 0) (upd (mI (oC (oN ((h_X7_refused ((h_X7_readText M).2) 0).2) (h_X7_copyState (mR ((h_X7_refused ((h_X7_readText M).2) 0).2)) (mN ((h_X7_refused ((h_X7_readText M).2) 0).2)) 0 0)) 0)) (0 : Int32).toNatClampNeg (vp_nar .boolean 0))) (upd (mI (oI (oC (oN ((h_X7_refused ((h_X7_readText M).2) 0).2) (h_X7_copyState (mR ((h_X7_refused ((h_X7_readText M).2) 0).2)) (mN ((h_X7_refused ((h_X7_readText M).2) 0).2)) 0 0)) 0) (upd (mI (oC (oN ((h_X7_refused ((h_X7_readText M).2) 0).2) (h_X7_copyState (mR ((h_X7_refused ((h_X7_readText M).2) 0).2)) (mN ((h_X7_refused ((h_X7_readText M).2) 0).2)) 0 0)) 0)) (0 : Int32).toNatClampNeg (vp_nar .boolean 0)))) (1 : Int32).toNatClampNeg (vp_nar .boolean 0)))) := (by rw [h_X7_load, if_pos c_1])
      have hE2 := snd_of hE
      exact W.iret hx hb hr (fun t ht hW => ⟨by rw [fst_of hE], by rw [ht, hE2]; exact hP, hS.F ht⟩) hS.2.2 dX7_load_62
    · exact absurd (ref_0 _) c_3
