theorem cp_lp (f : Rw) (i0 i1 : Nat) : ∀ (n k : Nat) (g2 : Rw) (j : Nat), k + n = 328 → k ≤ 327 → lp_cpSt f i0 i1 n k g2 j = if i1 + k ≤ j ∧ j < i1 + 327 then f (i0 + (j - i1)) else g2 j := by
  intro n
  induction n with
  | zero => intro k g2 j h1 h2; omega
  | succ n ih =>
    intro k g2 j h1 h2
    rw [lp_cpSt]
    by_cases c1 : (327 : Int32) ≤ nI k
    · rw [if_pos c1, if_neg]
      intro z
      exact absurd c1 (show ¬ (327 : Int32) ≤ nI k from nI_ge (a := k) (b := 327) (by omega) (by decide))
    · rw [if_neg c1]
      have h9 : k < 327 := kN (B := 327) c1 (by omega) (by omega)
      rw [ih (k + 1) _ j (by omega) (by omega)]
      by_cases c2 : i1 + (k + 1) ≤ j ∧ j < i1 + 327
      · rw [if_pos c2, if_pos ⟨by omega, c2.2⟩]
      · rw [if_neg c2]
        by_cases c3 : j = i1 + k
        · subst c3
          rw [pk_us, if_pos ⟨by omega, by omega⟩]
          congr 1
          omega
        · rw [pk_un c3, if_neg (by omega)]
theorem cp_at (f g : Rw) (i0 i1 j : Nat) : h_X7_copyState f g i0 i1 j = if i1 ≤ j ∧ j < i1 + 327 then f (i0 + (j - i1)) else g j := cp_lp f i0 i1 _ 0 g j (by omega) (by omega)
theorem cp_00 (f g : Rw) {j : Nat} (h : j < 327) : h_X7_copyState f g 0 0 j = f j := by
  rw [cp_at, if_pos ⟨by omega, by omega⟩]
  congr 1
  omega
theorem RI_cong {g g' : Rw} (h : RI g) (e : ∀ i, i < 327 → g' i = g i) : RI g' :=
  RI_same h (e 0 (by omega)) (e 3 (by omega)) fun c hc r => by
    have hm := h.m.2
    exact RC_same r (e _ (by omega)) (e _ (by omega)) (e _ (by omega))
theorem RI_cp {f g : Rw} (h : RI f) : RI (h_X7_copyState f g 0 0) := RI_cong h fun i hi => cp_00 f g hi
theorem RI_cp0 {M : Mo} {w : Int32} (h : RI (mN M)) : RI (mR (oR (h_X7_refused M w).2 (h_X7_copyState (mN (h_X7_refused M w).2) (mR (h_X7_refused M w).2) 0 0))) := by
  rw [mR_oR, ref_N]
  exact RI_cp h
theorem le100 {k : Nat} (h : ¬ (100 : Int32) < nI k) (hk : k < 2 ^ 31) : k ≤ 100 := by
  rw [Int32.lt_iff_toInt_lt, nI_toInt hk, show (100 : Int32).toInt = 100 by decide] at h
  omega

def lp_rGapIn (len : Int32) : Nat → Nat → Mo → Int32 × Mo
  | 0, _, M2 => (-1, M2)
  | n + 1, k, M2 => if 100 < (nI k) then ((-1), M2) else
    if (f_X7_suffices (mR M2) len) = 0 then lp_rGapIn len n (k + 1) (oR M2 ((h_X7_minute (mR M2)).2)) else
    (nI k, M2)
def h_X7_gapIn (M : Mo) (len : Int32) : Int32 × Mo :=
  if (f_X7_isLength len) = 0 then (0, (h_X7_refused M 1).2) else
  lp_rGapIn len 102 0 (oR ((h_X7_refused M 0).2) (h_X7_copyState (mN ((h_X7_refused M 0).2)) (mR ((h_X7_refused M 0).2)) 0 0))
set_option maxHeartbeats 4000000 in
set_option maxRecDepth 100000 in
theorem c_X7_gapIn (l : Launch) (G : GG) (b : Nat) (M : Mo) (len : Int32) (hRI : RI (mN M)) : Met l yX7_gapIn wsX7_gapIn ({ frames := 6, cells := 0, slots := 0, locals := 135 }) (PcH G [.ref b, .int len] (Md G b M)) (QM (some (.int ((h_X7_gapIn M len).1))) (Md G b ((h_X7_gapIn M len).2)) (blk b (b + 8))) 0 0 (blk b (b + 8)) := by
  refine metH (cc := cX7_gapIn) (maxL := 3) (ret := (some .int)) (by decide) rfl ?_
  intro p e s m below meth cd hx hb hr hml hown hts hlocks hP hO
  have hin7 : ∀ w ∈ u_ws RX7 TX7 12, w ∈ wsX7_gapIn := by decide +kernel
  have hf_13 := hts (.fieldLink RX7 13 "CurbCarsModel" "now" "[I") (by decide +kernel)
  have hf_16 := hts (.fieldLink RX7 16 "CurbCarsModel" "trial" "[I") (by decide +kernel)
  have hA : ∀ q, (blk b (b + 8)) q → (blk b (b + 8)) q := fun _ h => h
  have hS : va_S (blk b (b + 8)) s.heap s.heap [] := va_S.rf
  have hl := lv_entry ([.ref b, .int len]) (n := 3) (Nat.le_of_ble_eq_true rfl)
  rw [lg_entry_eq]
  generalize (lg_sl ([.ref b, .int len]) ++ List.replicate (3 - (lg_sl ([.ref b, .int len])).length) Slot.unset).toArray = ls at hl ⊢
  have hl : lv_has ls 3 [(0, .ref b), (1, .int len)] := hl
  have loop36 : ∀ (n : Nat) (k : Nat) (M2 : Mo), k ≤ 101 → k + n = 102 → RI (mR M2) → h_X7_gapIn M len = lp_rGapIn len n k M2 → ∀ (H : Heap) (locs : List Loc) (ls : Array Slot), Md G b M2 H → va_S (blk b (b + 8)) s.heap H locs → lv_has ls 3 [(0, .ref b), (1, .int len), (2, .int (nI k))] → W p l e (headSpec wsX7_gapIn ({ frames := 6, cells := 0, slots := 0, locals := 135 } : Room)).room s m ([.ref b, .int len] : List Value).toArray below meth cd H locs 0 0 (MQ below (QM (some (.int ((h_X7_gapIn M len).1))) (Md G b ((h_X7_gapIn M len).2)) (blk b (b + 8))) ([.ref b, .int len] : List Value).toArray s 0 0 (blk b (b + 8))) (F0 m 36 ls []) := by
    intro n
    induction n with
    | zero =>
      intro k M2 hk hn hR2 hR H locs ls hP hS hl
      exact absurd hn (by omega)
    | succ n ih =>
      intro k M2 hk hn hR2 hR H locs ls hP hS hl
      refine lv_iload_n hx hb dX7_gapIn_36 rfl (lv_at hl 2 rfl) ?_
      refine lv_bipush (v := 100) hx hb dX7_gapIn_37 (by decide) ?_
      refine lv_icmp_gt (tgt := 69) hx hb dX7_gapIn_39 (by decide) (fun c_1 => ?_) (fun c_1 => ?_)
      · refine lv_iconst (v := -1) hx hb dX7_gapIn_69 (by decide) ?_
        have hE : h_X7_gapIn M len = ((-1), M2) := (hR.trans (by rw [lp_rGapIn, if_pos c_1]))
        have hE2 := snd_of hE
        exact W.iret hx hb hr (fun t ht hW => ⟨by rw [fst_of hE], by rw [ht, hE2]; exact hP, hS.F ht⟩) hS.2.2 dX7_gapIn_70
      · refine lv_aload_n hx hb dX7_gapIn_42 rfl (lv_at hl 0 rfl) ?_
        refine va_get (D := G.1) (ci := 5) (v := .ref (b + 3)) (C := RX7) (T := TX7) (N := 12) hx hb hts hin7 hown hO.1 hP 0 rfl rfl 4 (by decide) hf_16 (fun _ h9 => h9) rfl dX7_gapIn_43 ?_
        refine lv_iload_n hx hb dX7_gapIn_46 rfl (lv_at hl 1 rfl) ?_
        refine cl_pi (rS (As := [.ref (b + 3), .int len]) (rest := []) ⟨hx, hb, hml, hown, hts⟩ (c_X7_suffices l G (b + 3) (mR M2) len) (va_cwS 2 hts gX7_gapIn_X7_suffices rfl rfl rfl (by decide +kernel) ⟨Nat.le_of_ble_eq_true rfl, Nat.le_of_ble_eq_true rfl⟩) (va_P.sub hP [3] rfl) hO rfl hl.1 (Nat.le_of_ble_eq_true rfl) dX7_gapIn_47 ⟨Nat.le_of_ble_eq_true rfl, Nat.le_of_ble_eq_true rfl⟩) ?_
        refine lv_if_eq (tgt := 55) hx hb dX7_gapIn_50 (by decide) (fun c_2 => ?_) (fun c_2 => ?_)
        · refine lv_aload_n hx hb dX7_gapIn_55 rfl (lv_at hl 0 rfl) ?_
          refine va_get (D := G.1) (ci := 5) (v := .ref (b + 3)) (C := RX7) (T := TX7) (N := 12) hx hb hts hin7 hown hO.1 hP 0 rfl rfl 4 (by decide) hf_16 (fun _ h9 => h9) rfl dX7_gapIn_56 ?_
          refine cl_mi (rS (As := [.ref (b + 3)]) (rest := []) ⟨hx, hb, hml, hown, hts⟩ (c_X7_minute l G (b + 3) (mR M2) hR2) (va_cwS 1 hts gX7_gapIn_X7_minute rfl rfl rfl (by decide +kernel) ⟨Nat.le_of_ble_eq_true rfl, Nat.le_of_ble_eq_true rfl⟩) (va_P.sub hP [3] rfl) hO rfl hl.1 (Nat.le_of_ble_eq_true rfl) dX7_gapIn_59 ⟨Nat.le_of_ble_eq_true rfl, Nat.le_of_ble_eq_true rfl⟩) hS (fun q h => hA q (by simp only [one, blk] at *; omega)) (fun H locs hP1 hz hk hS => ?_)
          have hP : Md G b (oR M2 ((h_X7_minute (mR M2)).2)) H := md_pR (mo_row 3 hP rfl hP1 hk)
          refine lv_pop hx hb dX7_gapIn_62 rfl ?_
          refine lv_iinc (v := nI (k + 1)) (lv' := [(2, .int (nI (k + 1))), (0, .ref b), (1, .int len)]) hx hb dX7_gapIn_63 hl (k := 2) rfl (nI_1 _) (by decide) rfl (fun ls hl => ?_)
          refine lv_goto (tgt := 36) hx hb dX7_gapIn_66 (by decide) ?_
          have hE_3 : h_X7_gapIn M len = lp_rGapIn len n (k + 1) (oR M2 ((h_X7_minute (mR M2)).2)) := (hR.trans (by rw [lp_rGapIn, if_neg c_1, if_pos c_2]))
          exact ih (k + 1) (oR M2 ((h_X7_minute (mR M2)).2)) (by have h9 := le100 (by assumption) (by omega); omega) (by omega) (by rw [mR_oR]; exact (minute_ok hR2).1) hE_3 _ _ _ hP hS (lv_sub hl [1, 2, 0] rfl)
        · refine lv_iload_n hx hb dX7_gapIn_53 rfl (lv_at hl 2 rfl) ?_
          have hE : h_X7_gapIn M len = (nI k, M2) := (hR.trans (by rw [lp_rGapIn, if_neg c_1, if_neg c_2]))
          have hE2 := snd_of hE
          exact W.iret hx hb hr (fun t ht hW => ⟨by rw [fst_of hE], by rw [ht, hE2]; exact hP, hS.F ht⟩) hS.2.2 dX7_gapIn_54
  refine lv_aload_n hx hb dX7_gapIn_0 rfl (lv_at hl 0 rfl) ?_
  refine lv_iload_n hx hb dX7_gapIn_1 rfl (lv_at hl 1 rfl) ?_
  refine cl_pi (rS (As := [.int len]) (rest := [.ref b]) ⟨hx, hb, hml, hown, hts⟩ (c_X7_isLength l G len) (va_cwS 1 hts gX7_gapIn_X7_isLength rfl rfl rfl (by decide +kernel) ⟨Nat.le_of_ble_eq_true rfl, Nat.le_of_ble_eq_true rfl⟩) trivial hO rfl hl.1 (Nat.le_of_ble_eq_true rfl) dX7_gapIn_2 ⟨Nat.le_of_ble_eq_true rfl, Nat.le_of_ble_eq_true rfl⟩) ?_
  refine lv_if_eq (tgt := 12) hx hb dX7_gapIn_5 (by decide) (fun c_4 => ?_) (fun c_4 => ?_)
  · refine lv_iconst (v := 1) hx hb dX7_gapIn_12 (by decide) ?_
    refine cl_mi (rV (As := [.int 1]) (rest := []) ⟨hx, hb, hml, hown, hts⟩ (c_X7_refused l G b M 1) (cwV 1 hts gX7_gapIn_X7_refused rfl rfl rfl (by decide +kernel) ⟨Nat.le_of_ble_eq_true rfl, Nat.le_of_ble_eq_true rfl⟩) (md_recv hO hP) hP hO rfl hl.1 (Nat.le_of_ble_eq_true rfl) dX7_gapIn_13 ⟨Nat.le_of_ble_eq_true rfl, Nat.le_of_ble_eq_true rfl⟩) hS hA (fun H locs hP1 hz hk hS => ?_)
    have hP : Md G b ((h_X7_refused M 1).2) H := hP1
    refine lv_if_eq (tgt := 21) hx hb dX7_gapIn_16 (by decide) (fun c_5 => ?_) (fun c_5 => ?_)
    · exact absurd c_5 (ref_p1 _)
    · refine lv_iconst (v := 0) hx hb dX7_gapIn_19 (by decide) ?_
      have hE : h_X7_gapIn M len = (0, (h_X7_refused M 1).2) := (by rw [h_X7_gapIn, if_pos c_4])
      have hE2 := snd_of hE
      exact W.iret hx hb hr (fun t ht hW => ⟨by rw [fst_of hE], by rw [ht, hE2]; exact hP, hS.F ht⟩) hS.2.2 dX7_gapIn_20
  · refine lv_iconst (v := 0) hx hb dX7_gapIn_8 (by decide) ?_
    refine lv_goto (tgt := 13) hx hb dX7_gapIn_9 (by decide) ?_
    refine cl_mi (rV (As := [.int 0]) (rest := []) ⟨hx, hb, hml, hown, hts⟩ (c_X7_refused l G b M 0) (cwV 1 hts gX7_gapIn_X7_refused rfl rfl rfl (by decide +kernel) ⟨Nat.le_of_ble_eq_true rfl, Nat.le_of_ble_eq_true rfl⟩) (md_recv hO hP) hP hO rfl hl.1 (Nat.le_of_ble_eq_true rfl) dX7_gapIn_13 ⟨Nat.le_of_ble_eq_true rfl, Nat.le_of_ble_eq_true rfl⟩) hS hA (fun H locs hP1 hz hk hS => ?_)
    have hP : Md G b ((h_X7_refused M 0).2) H := hP1
    refine lv_if_eq (tgt := 21) hx hb dX7_gapIn_16 (by decide) (fun c_6 => ?_) (fun c_6 => ?_)
    · refine lv_aload_n hx hb dX7_gapIn_21 rfl (lv_at hl 0 rfl) ?_
      refine va_get (D := G.1) (ci := 5) (v := .ref (b + 2)) (C := RX7) (T := TX7) (N := 12) hx hb hts hin7 hown hO.1 hP 0 rfl rfl 3 (by decide) hf_13 (fun _ h9 => h9) rfl dX7_gapIn_22 ?_
      refine lv_iconst (v := 0) hx hb dX7_gapIn_25 (by decide) ?_
      refine lv_aload_n hx hb dX7_gapIn_26 rfl (lv_at hl 0 rfl) ?_
      refine va_get (D := G.1) (ci := 5) (v := .ref (b + 3)) (C := RX7) (T := TX7) (N := 12) hx hb hts hin7 hown hO.1 hP 0 rfl rfl 4 (by decide) hf_16 (fun _ h9 => h9) rfl dX7_gapIn_27 ?_
      refine lv_iconst (v := 0) hx hb dX7_gapIn_30 (by decide) ?_
      refine cl_mv (rS (As := [.ref (b + 2), .int 0, .ref (b + 3), .int 0]) (rest := []) ⟨hx, hb, hml, hown, hts⟩ (c_X7_copyState l G (b + 2) 327 (mN ((h_X7_refused M 0).2)) (b + 3) 327 (mR ((h_X7_refused M 0).2)) 0 0 (by omega) (by omega) (by decide) (by decide) (by omega)) (va_cwS 4 hts gX7_gapIn_X7_copyState rfl rfl rfl (by decide +kernel) ⟨Nat.le_of_ble_eq_true rfl, Nat.le_of_ble_eq_true rfl⟩) (va_P.sub hP [2, 3] rfl) hO rfl hl.1 (Nat.le_of_ble_eq_true rfl) dX7_gapIn_31 ⟨Nat.le_of_ble_eq_true rfl, Nat.le_of_ble_eq_true rfl⟩) hS (fun q h => hA q (by simp only [two, blk] at *; omega)) (fun H locs hP1 hz hk hS => ?_)
      have hP : Md G b (oR ((h_X7_refused M 0).2) (h_X7_copyState (mN ((h_X7_refused M 0).2)) (mR ((h_X7_refused M 0).2)) 0 0)) H := md_pR (two_row 2 3 hP (md_D b ((h_X7_refused M 0).2) hA) rfl rfl hP1 hk)
      refine lv_iconst (v := 0) hx hb dX7_gapIn_34 (by decide) ?_
      refine lv_istore_n (lv' := [(2, .int 0), (0, .ref b), (1, .int len)]) hx hb dX7_gapIn_35 rfl hl (by decide) rfl (fun ls hl => ?_)
      have hE_7 : h_X7_gapIn M len = lp_rGapIn len 102 0 (oR ((h_X7_refused M 0).2) (h_X7_copyState (mN ((h_X7_refused M 0).2)) (mR ((h_X7_refused M 0).2)) 0 0)) := (by rw [h_X7_gapIn, if_neg c_4])
      exact loop36 102 0 (oR ((h_X7_refused M 0).2) (h_X7_copyState (mN ((h_X7_refused M 0).2)) (mR ((h_X7_refused M 0).2)) 0 0)) (Nat.zero_le _) (by omega) (RI_cp0 hRI) hE_7 _ _ _ hP hS (lv_sub hl [1, 2, 0] rfl)
    · exact absurd (ref_0 _) c_6
