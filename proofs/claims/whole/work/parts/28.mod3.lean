theorem mA_oA (M : Mo) (v : Int32) : mA (oA M v) = v := rfl
theorem mA_oT (M : Mo) (v : Rw) : mA (oT M v) = mA M := rfl
theorem mA_oZ (M : Mo) (v : Int32) : mA (oZ M v) = mA M := rfl
theorem mA_oN (M : Mo) (v : Rw) : mA (oN M v) = mA M := rfl
theorem mA_oR (M : Mo) (v : Rw) : mA (oR M v) = mA M := rfl
theorem mA_oH (M : Mo) (v : Rw) : mA (oH M v) = mA M := rfl
theorem mA_oD (M : Mo) (v : Rw) : mA (oD M v) = mA M := rfl
theorem mA_oC (M : Mo) (v : Int32) : mA (oC M v) = mA M := rfl
theorem mA_oK (M : Mo) (v : Rw) : mA (oK M v) = mA M := rfl
theorem mA_oI (M : Mo) (v : Rw) : mA (oI M v) = mA M := rfl
theorem mA_oS (M : Mo) (v : Int32) : mA (oS M v) = mA M := rfl
theorem mA_oO (M : Mo) (v : Int32) : mA (oO M v) = mA M := rfl
theorem mT_oA (M : Mo) (v : Int32) : mT (oA M v) = mT M := rfl
theorem mT_oT (M : Mo) (v : Rw) : mT (oT M v) = v := rfl
theorem mT_oZ (M : Mo) (v : Int32) : mT (oZ M v) = mT M := rfl
theorem mT_oN (M : Mo) (v : Rw) : mT (oN M v) = mT M := rfl
theorem mT_oR (M : Mo) (v : Rw) : mT (oR M v) = mT M := rfl
theorem mT_oH (M : Mo) (v : Rw) : mT (oH M v) = mT M := rfl
theorem mT_oD (M : Mo) (v : Rw) : mT (oD M v) = mT M := rfl
theorem mT_oC (M : Mo) (v : Int32) : mT (oC M v) = mT M := rfl
theorem mT_oK (M : Mo) (v : Rw) : mT (oK M v) = mT M := rfl
theorem mT_oI (M : Mo) (v : Rw) : mT (oI M v) = mT M := rfl
theorem mT_oS (M : Mo) (v : Int32) : mT (oS M v) = mT M := rfl
theorem mT_oO (M : Mo) (v : Int32) : mT (oO M v) = mT M := rfl
theorem mZ_oA (M : Mo) (v : Int32) : mZ (oA M v) = mZ M := rfl
theorem mZ_oT (M : Mo) (v : Rw) : mZ (oT M v) = mZ M := rfl
theorem mZ_oZ (M : Mo) (v : Int32) : mZ (oZ M v) = v := rfl
theorem mZ_oN (M : Mo) (v : Rw) : mZ (oN M v) = mZ M := rfl
theorem mZ_oR (M : Mo) (v : Rw) : mZ (oR M v) = mZ M := rfl
theorem mZ_oH (M : Mo) (v : Rw) : mZ (oH M v) = mZ M := rfl
theorem mZ_oD (M : Mo) (v : Rw) : mZ (oD M v) = mZ M := rfl
theorem mZ_oC (M : Mo) (v : Int32) : mZ (oC M v) = mZ M := rfl
theorem mZ_oK (M : Mo) (v : Rw) : mZ (oK M v) = mZ M := rfl
theorem mZ_oI (M : Mo) (v : Rw) : mZ (oI M v) = mZ M := rfl
theorem mZ_oS (M : Mo) (v : Int32) : mZ (oS M v) = mZ M := rfl
theorem mZ_oO (M : Mo) (v : Int32) : mZ (oO M v) = mZ M := rfl
theorem mN_oA (M : Mo) (v : Int32) : mN (oA M v) = mN M := rfl
theorem mN_oT (M : Mo) (v : Rw) : mN (oT M v) = mN M := rfl
theorem mN_oZ (M : Mo) (v : Int32) : mN (oZ M v) = mN M := rfl
theorem mN_oN (M : Mo) (v : Rw) : mN (oN M v) = v := rfl
theorem mN_oR (M : Mo) (v : Rw) : mN (oR M v) = mN M := rfl
theorem mN_oH (M : Mo) (v : Rw) : mN (oH M v) = mN M := rfl
theorem mN_oD (M : Mo) (v : Rw) : mN (oD M v) = mN M := rfl
theorem mN_oC (M : Mo) (v : Int32) : mN (oC M v) = mN M := rfl
theorem mN_oK (M : Mo) (v : Rw) : mN (oK M v) = mN M := rfl
theorem mN_oI (M : Mo) (v : Rw) : mN (oI M v) = mN M := rfl
theorem mN_oS (M : Mo) (v : Int32) : mN (oS M v) = mN M := rfl
theorem mN_oO (M : Mo) (v : Int32) : mN (oO M v) = mN M := rfl
theorem mR_oA (M : Mo) (v : Int32) : mR (oA M v) = mR M := rfl
theorem mR_oT (M : Mo) (v : Rw) : mR (oT M v) = mR M := rfl
theorem mR_oZ (M : Mo) (v : Int32) : mR (oZ M v) = mR M := rfl
theorem mR_oN (M : Mo) (v : Rw) : mR (oN M v) = mR M := rfl
theorem mR_oR (M : Mo) (v : Rw) : mR (oR M v) = v := rfl
theorem mR_oH (M : Mo) (v : Rw) : mR (oH M v) = mR M := rfl
theorem mR_oD (M : Mo) (v : Rw) : mR (oD M v) = mR M := rfl
theorem mR_oC (M : Mo) (v : Int32) : mR (oC M v) = mR M := rfl
theorem mR_oK (M : Mo) (v : Rw) : mR (oK M v) = mR M := rfl
theorem mR_oI (M : Mo) (v : Rw) : mR (oI M v) = mR M := rfl
theorem mR_oS (M : Mo) (v : Int32) : mR (oS M v) = mR M := rfl
theorem mR_oO (M : Mo) (v : Int32) : mR (oO M v) = mR M := rfl
theorem mH_oA (M : Mo) (v : Int32) : mH (oA M v) = mH M := rfl
theorem mH_oT (M : Mo) (v : Rw) : mH (oT M v) = mH M := rfl
theorem mH_oZ (M : Mo) (v : Int32) : mH (oZ M v) = mH M := rfl
theorem mH_oN (M : Mo) (v : Rw) : mH (oN M v) = mH M := rfl
theorem mH_oR (M : Mo) (v : Rw) : mH (oR M v) = mH M := rfl
theorem mH_oH (M : Mo) (v : Rw) : mH (oH M v) = v := rfl
theorem mH_oD (M : Mo) (v : Rw) : mH (oD M v) = mH M := rfl
theorem mH_oC (M : Mo) (v : Int32) : mH (oC M v) = mH M := rfl
theorem mH_oK (M : Mo) (v : Rw) : mH (oK M v) = mH M := rfl
theorem mH_oI (M : Mo) (v : Rw) : mH (oI M v) = mH M := rfl
theorem mH_oS (M : Mo) (v : Int32) : mH (oS M v) = mH M := rfl
theorem mH_oO (M : Mo) (v : Int32) : mH (oO M v) = mH M := rfl
theorem mD_oA (M : Mo) (v : Int32) : mD (oA M v) = mD M := rfl
theorem mD_oT (M : Mo) (v : Rw) : mD (oT M v) = mD M := rfl
theorem mD_oZ (M : Mo) (v : Int32) : mD (oZ M v) = mD M := rfl
theorem mD_oN (M : Mo) (v : Rw) : mD (oN M v) = mD M := rfl
theorem mD_oR (M : Mo) (v : Rw) : mD (oR M v) = mD M := rfl
theorem mD_oH (M : Mo) (v : Rw) : mD (oH M v) = mD M := rfl
theorem mD_oD (M : Mo) (v : Rw) : mD (oD M v) = v := rfl
theorem mD_oC (M : Mo) (v : Int32) : mD (oC M v) = mD M := rfl
theorem mD_oK (M : Mo) (v : Rw) : mD (oK M v) = mD M := rfl
theorem mD_oI (M : Mo) (v : Rw) : mD (oI M v) = mD M := rfl
theorem mD_oS (M : Mo) (v : Int32) : mD (oS M v) = mD M := rfl
theorem mD_oO (M : Mo) (v : Int32) : mD (oO M v) = mD M := rfl
theorem mC_oA (M : Mo) (v : Int32) : mC (oA M v) = mC M := rfl
theorem mC_oT (M : Mo) (v : Rw) : mC (oT M v) = mC M := rfl
theorem mC_oZ (M : Mo) (v : Int32) : mC (oZ M v) = mC M := rfl
theorem mC_oN (M : Mo) (v : Rw) : mC (oN M v) = mC M := rfl
theorem mC_oR (M : Mo) (v : Rw) : mC (oR M v) = mC M := rfl
theorem mC_oH (M : Mo) (v : Rw) : mC (oH M v) = mC M := rfl
theorem mC_oD (M : Mo) (v : Rw) : mC (oD M v) = mC M := rfl
theorem mC_oC (M : Mo) (v : Int32) : mC (oC M v) = v := rfl
theorem mC_oK (M : Mo) (v : Rw) : mC (oK M v) = mC M := rfl
theorem mC_oI (M : Mo) (v : Rw) : mC (oI M v) = mC M := rfl
theorem mC_oS (M : Mo) (v : Int32) : mC (oS M v) = mC M := rfl
theorem mC_oO (M : Mo) (v : Int32) : mC (oO M v) = mC M := rfl
theorem mK_oA (M : Mo) (v : Int32) : mK (oA M v) = mK M := rfl
theorem mK_oT (M : Mo) (v : Rw) : mK (oT M v) = mK M := rfl
theorem mK_oZ (M : Mo) (v : Int32) : mK (oZ M v) = mK M := rfl
theorem mK_oN (M : Mo) (v : Rw) : mK (oN M v) = mK M := rfl
theorem mK_oR (M : Mo) (v : Rw) : mK (oR M v) = mK M := rfl
theorem mK_oH (M : Mo) (v : Rw) : mK (oH M v) = mK M := rfl
theorem mK_oD (M : Mo) (v : Rw) : mK (oD M v) = mK M := rfl
theorem mK_oC (M : Mo) (v : Int32) : mK (oC M v) = mK M := rfl
theorem mK_oK (M : Mo) (v : Rw) : mK (oK M v) = v := rfl
theorem mK_oI (M : Mo) (v : Rw) : mK (oI M v) = mK M := rfl
theorem mK_oS (M : Mo) (v : Int32) : mK (oS M v) = mK M := rfl
theorem mK_oO (M : Mo) (v : Int32) : mK (oO M v) = mK M := rfl
theorem mI_oA (M : Mo) (v : Int32) : mI (oA M v) = mI M := rfl
theorem mI_oT (M : Mo) (v : Rw) : mI (oT M v) = mI M := rfl
theorem mI_oZ (M : Mo) (v : Int32) : mI (oZ M v) = mI M := rfl
theorem mI_oN (M : Mo) (v : Rw) : mI (oN M v) = mI M := rfl
theorem mI_oR (M : Mo) (v : Rw) : mI (oR M v) = mI M := rfl
theorem mI_oH (M : Mo) (v : Rw) : mI (oH M v) = mI M := rfl
theorem mI_oD (M : Mo) (v : Rw) : mI (oD M v) = mI M := rfl
theorem mI_oC (M : Mo) (v : Int32) : mI (oC M v) = mI M := rfl
theorem mI_oK (M : Mo) (v : Rw) : mI (oK M v) = mI M := rfl
theorem mI_oI (M : Mo) (v : Rw) : mI (oI M v) = v := rfl
theorem mI_oS (M : Mo) (v : Int32) : mI (oS M v) = mI M := rfl
theorem mI_oO (M : Mo) (v : Int32) : mI (oO M v) = mI M := rfl
theorem mS_oA (M : Mo) (v : Int32) : mS (oA M v) = mS M := rfl
theorem mS_oT (M : Mo) (v : Rw) : mS (oT M v) = mS M := rfl
theorem mS_oZ (M : Mo) (v : Int32) : mS (oZ M v) = mS M := rfl
theorem mS_oN (M : Mo) (v : Rw) : mS (oN M v) = mS M := rfl
theorem mS_oR (M : Mo) (v : Rw) : mS (oR M v) = mS M := rfl
theorem mS_oH (M : Mo) (v : Rw) : mS (oH M v) = mS M := rfl
theorem mS_oD (M : Mo) (v : Rw) : mS (oD M v) = mS M := rfl
theorem mS_oC (M : Mo) (v : Int32) : mS (oC M v) = mS M := rfl
theorem mS_oK (M : Mo) (v : Rw) : mS (oK M v) = mS M := rfl
theorem mS_oI (M : Mo) (v : Rw) : mS (oI M v) = mS M := rfl
theorem mS_oS (M : Mo) (v : Int32) : mS (oS M v) = v := rfl
theorem mS_oO (M : Mo) (v : Int32) : mS (oO M v) = mS M := rfl
theorem mO_oA (M : Mo) (v : Int32) : mO (oA M v) = mO M := rfl
theorem mO_oT (M : Mo) (v : Rw) : mO (oT M v) = mO M := rfl
theorem mO_oZ (M : Mo) (v : Int32) : mO (oZ M v) = mO M := rfl
theorem mO_oN (M : Mo) (v : Rw) : mO (oN M v) = mO M := rfl
theorem mO_oR (M : Mo) (v : Rw) : mO (oR M v) = mO M := rfl
theorem mO_oH (M : Mo) (v : Rw) : mO (oH M v) = mO M := rfl
theorem mO_oD (M : Mo) (v : Rw) : mO (oD M v) = mO M := rfl
theorem mO_oC (M : Mo) (v : Int32) : mO (oC M v) = mO M := rfl
theorem mO_oK (M : Mo) (v : Rw) : mO (oK M v) = mO M := rfl
theorem mO_oI (M : Mo) (v : Rw) : mO (oI M v) = mO M := rfl
theorem mO_oS (M : Mo) (v : Int32) : mO (oS M v) = mO M := rfl
theorem mO_oO (M : Mo) (v : Int32) : mO (oO M v) = v := rfl
def ac (M : Mo) : Nat := (mC M).toNatClampNeg
theorem lt14 {x : Int32} {z : Nat} (h : x = nI z) (hz : z ≤ 14) (hn : ¬ x = 14) : z < 14 := by
  rcases Nat.lt_or_ge z 14 with q | q
  · exact q
  · exact absurd (by rw [h, show z = 14 by omega]; rfl) hn
theorem rem13 {M M2 : Mo} (hC : mC M2 = mC M) (h : mC M = 14) : mC (oC M2 ((mC M2) - 1)) = nI 13 := by
  show mC M2 - 1 = nI 13
  rw [hC, h]
  decide

def lp_rem (M : Mo) : Nat → Nat → Mo → Mo
  | 0, _, M2 => M2
  | n + 1, k, M2 => if 4251 ≤ (nI k) then (oC (oD (oC M2 ((mC M2) - 1)) (h_X7_copyState (mN (oC M2 ((mC M2) - 1))) (mD (oC M2 ((mC M2) - 1))) 0 (327 * 13))) ((mC (oD (oC M2 ((mC M2) - 1)) (h_X7_copyState (mN (oC M2 ((mC M2) - 1))) (mD (oC M2 ((mC M2) - 1))) 0 (327 * 13)))) + 1)) else
    lp_rem M n (k + 1) (oD M2 (upd (mD M2) k ((mD M2) (k + 327))))
def h_X7_remember (M : Mo) : Mo :=
  if (mC M) = 14 then lp_rem M (4251 + 1) 0 M else
  (oC (oD M (h_X7_copyState (mN M) (mD M) 0 (327 * (ac M)))) ((mC (oD M (h_X7_copyState (mN M) (mD M) 0 (327 * (ac M))))) + 1))
set_option maxHeartbeats 4000000 in
set_option maxRecDepth 100000 in
theorem c_X7_remember (l : Launch) (G : GG) (b : Nat) (M : Mo) (hac : mC M = nI (ac M)) (hac14 : ac M ≤ 14) : Met l yX7_remember wsX7_remember ({ frames := 1, cells := 0, slots := 0, locals := 24 }) (PcH G [.ref b] (Md G b M)) (QM none (Md G b (h_X7_remember M)) (blk b (b + 8))) 0 0 (blk b (b + 8)) := by
  refine metH (cc := cX7_remember) (maxL := 2) (ret := none) (by decide) rfl ?_
  intro p e s m below meth cd hx hb hr hml hown hts hlocks hP hO
  have hin7 : ∀ w ∈ u_ws RX7 TX7 12, w ∈ wsX7_remember := by decide +kernel
  have hf_13 := hts (.fieldLink RX7 13 "CurbCarsModel" "now" "[I") (by decide +kernel)
  have hf_22 := hts (.fieldLink RX7 22 "CurbCarsModel" "diary" "[I") (by decide +kernel)
  have hf_202 := hts (.fieldLink RX7 202 "CurbCarsModel" "acts" "I") (by decide +kernel)
  have hA : ∀ q, (blk b (b + 8)) q → (blk b (b + 8)) q := fun _ h => h
  have hS : va_S (blk b (b + 8)) s.heap s.heap [] := va_S.rf
  have hl := lv_entry ([.ref b]) (n := 2) (Nat.le_of_ble_eq_true rfl)
  rw [lg_entry_eq]
  generalize (lg_sl ([.ref b]) ++ List.replicate (2 - (lg_sl ([.ref b])).length) Slot.unset).toArray = ls at hl ⊢
  have hl : lv_has ls 2 [(0, .ref b)] := hl
  have loop11 : ∀ (n : Nat) (k : Nat) (M2 : Mo), k ≤ 4251 → k + n = 4251 + 1 → mC M2 = mC M → mC M = 14 → h_X7_remember M = lp_rem M n k M2 → ∀ (H : Heap) (locs : List Loc) (ls : Array Slot), Md G b M2 H → va_S (blk b (b + 8)) s.heap H locs → lv_has ls 2 [(0, .ref b), (1, .int (nI k))] → W p l e (headSpec wsX7_remember ({ frames := 1, cells := 0, slots := 0, locals := 24 } : Room)).room s m ([.ref b] : List Value).toArray below meth cd H locs 0 0 (MQ below (QM none (Md G b (h_X7_remember M)) (blk b (b + 8))) ([.ref b] : List Value).toArray s 0 0 (blk b (b + 8))) (F0 m 11 ls []) := by
    intro n
    induction n with
    | zero =>
      intro k M2 hk hn hC h14 hR H locs ls hP hS hl
      exact absurd hn (by omega)
    | succ n ih =>
      intro k M2 hk hn hC h14 hR H locs ls hP hS hl
      refine lv_iload_n hx hb dX7_remember_11 rfl (lv_at hl 1 rfl) ?_
      refine lv_sipush (v := 4251) hx hb dX7_remember_12 (by decide) ?_
      refine lv_icmp_ge (tgt := 40) hx hb dX7_remember_15 (by decide) (fun c_1 => ?_) (fun c_1 => ?_)
      · refine lv_aload_n hx hb dX7_remember_40 rfl (lv_at hl 0 rfl) ?_
        refine lv_dup hx hb dX7_remember_41 rfl ?_
        refine va_get (D := G.1) (ci := 5) (v := .int (mC M2)) (C := RX7) (T := TX7) (N := 12) hx hb hts hin7 hown hO.1 hP 0 rfl rfl 7 (by decide) hf_202 (fun _ h9 => h9) rfl dX7_remember_42 ?_
        refine lv_iconst (v := 1) hx hb dX7_remember_45 (by decide) ?_
        refine lv_isub hx hb dX7_remember_46 ?_
        refine va_put (D := G.1) (ci := 5) (v := .int ((mC M2) - 1)) (ty := .int) (C := RX7) (T := TX7) (N := 12) hx hb hts hin7 tyX7 tyX7_ok nmX7 hown hO.1 hP (md_D b M2 hA) hS 0 rfl rfl 7 (by decide) hf_202 (fun _ h9 => h9) rfl (by decide +kernel) rfl rfl (Nat.le_of_ble_eq_true rfl) dX7_remember_47 (fun H locs hP hD hS => ?_)
        have hP : Md G b (oC M2 ((mC M2) - 1)) H := md_pC hP
        refine lv_aload_n hx hb dX7_remember_50 rfl (lv_at hl 0 rfl) ?_
        refine va_get (D := G.1) (ci := 5) (v := .ref (b + 2)) (C := RX7) (T := TX7) (N := 12) hx hb hts hin7 hown hO.1 hP 0 rfl rfl 3 (by decide) hf_13 (fun _ h9 => h9) rfl dX7_remember_51 ?_
        refine lv_iconst (v := 0) hx hb dX7_remember_54 (by decide) ?_
        refine lv_aload_n hx hb dX7_remember_55 rfl (lv_at hl 0 rfl) ?_
        refine va_get (D := G.1) (ci := 5) (v := .ref (b + 5)) (C := RX7) (T := TX7) (N := 12) hx hb hts hin7 hown hO.1 hP 0 rfl rfl 6 (by decide) hf_22 (fun _ h9 => h9) rfl dX7_remember_56 ?_
        refine lv_sipush (v := 327) hx hb dX7_remember_59 (by decide) ?_
        refine lv_aload_n hx hb dX7_remember_62 rfl (lv_at hl 0 rfl) ?_
        refine va_get (D := G.1) (ci := 5) (v := .int (mC (oC M2 ((mC M2) - 1)))) (C := RX7) (T := TX7) (N := 12) hx hb hts hin7 hown hO.1 hP 0 rfl rfl 7 (by decide) hf_202 (fun _ h9 => h9) rfl dX7_remember_63 ?_
        rw [(rem13 hC h14)]
        refine imul_n (a := 327) (b := 13) hx hb dX7_remember_66 ?_
        refine cl_mv (rS (As := [.ref (b + 2), .int 0, .ref (b + 5), .int (nI (327 * 13))]) (rest := []) ⟨hx, hb, hml, hown, hts⟩ (c_X7_copyState l G (b + 2) 327 (mN (oC M2 ((mC M2) - 1))) (b + 5) 4578 (mD (oC M2 ((mC M2) - 1))) 0 (327 * 13) (by omega) (by omega) (by decide) (by decide) (by omega)) (va_cwS 4 hts gX7_remember_X7_copyState rfl rfl rfl (by decide +kernel) ⟨Nat.le_of_ble_eq_true rfl, Nat.le_of_ble_eq_true rfl⟩) (va_P.sub hP [2, 5] rfl) hO rfl hl.1 (Nat.le_of_ble_eq_true rfl) dX7_remember_67 ⟨Nat.le_of_ble_eq_true rfl, Nat.le_of_ble_eq_true rfl⟩) hS (fun q h => hA q (by simp only [two, blk] at *; omega)) (fun H locs hP1 hz hk hS => ?_)
        have hP : Md G b (oD (oC M2 ((mC M2) - 1)) (h_X7_copyState (mN (oC M2 ((mC M2) - 1))) (mD (oC M2 ((mC M2) - 1))) 0 (327 * 13))) H := md_pD (two_row 2 5 hP (md_D b (oC M2 ((mC M2) - 1)) hA) rfl rfl hP1 hk)
        refine lv_aload_n hx hb dX7_remember_70 rfl (lv_at hl 0 rfl) ?_
        refine lv_dup hx hb dX7_remember_71 rfl ?_
        refine va_get (D := G.1) (ci := 5) (v := .int (mC (oD (oC M2 ((mC M2) - 1)) (h_X7_copyState (mN (oC M2 ((mC M2) - 1))) (mD (oC M2 ((mC M2) - 1))) 0 (327 * 13))))) (C := RX7) (T := TX7) (N := 12) hx hb hts hin7 hown hO.1 hP 0 rfl rfl 7 (by decide) hf_202 (fun _ h9 => h9) rfl dX7_remember_72 ?_
        refine lv_iconst (v := 1) hx hb dX7_remember_75 (by decide) ?_
        refine lv_iadd hx hb dX7_remember_76 ?_
        refine va_put (D := G.1) (ci := 5) (v := .int ((mC (oD (oC M2 ((mC M2) - 1)) (h_X7_copyState (mN (oC M2 ((mC M2) - 1))) (mD (oC M2 ((mC M2) - 1))) 0 (327 * 13)))) + 1)) (ty := .int) (C := RX7) (T := TX7) (N := 12) hx hb hts hin7 tyX7 tyX7_ok nmX7 hown hO.1 hP (md_D b (oD (oC M2 ((mC M2) - 1)) (h_X7_copyState (mN (oC M2 ((mC M2) - 1))) (mD (oC M2 ((mC M2) - 1))) 0 (327 * 13))) hA) hS 0 rfl rfl 7 (by decide) hf_202 (fun _ h9 => h9) rfl (by decide +kernel) rfl rfl (Nat.le_of_ble_eq_true rfl) dX7_remember_77 (fun H locs hP hD hS => ?_)
        have hP : Md G b (oC (oD (oC M2 ((mC M2) - 1)) (h_X7_copyState (mN (oC M2 ((mC M2) - 1))) (mD (oC M2 ((mC M2) - 1))) 0 (327 * 13))) ((mC (oD (oC M2 ((mC M2) - 1)) (h_X7_copyState (mN (oC M2 ((mC M2) - 1))) (mD (oC M2 ((mC M2) - 1))) 0 (327 * 13)))) + 1)) H := md_pC hP
        have hE : h_X7_remember M = (oC (oD (oC M2 ((mC M2) - 1)) (h_X7_copyState (mN (oC M2 ((mC M2) - 1))) (mD (oC M2 ((mC M2) - 1))) 0 (327 * 13))) ((mC (oD (oC M2 ((mC M2) - 1)) (h_X7_copyState (mN (oC M2 ((mC M2) - 1))) (mD (oC M2 ((mC M2) - 1))) 0 (327 * 13)))) + 1)) := (hR.trans (by rw [lp_rem, if_pos c_1]))
        exact W.vret hx hb hr (fun t ht hW => ⟨rfl, by rw [ht, hE]; exact hP, hS.F ht⟩) hS.2.2 dX7_remember_80
      · have hlt : k < 4251 := kN (B := 4251) c_1 (by omega) (by omega)
        refine lv_aload_n hx hb dX7_remember_18 rfl (lv_at hl 0 rfl) ?_
        refine va_get (D := G.1) (ci := 5) (v := .ref (b + 5)) (C := RX7) (T := TX7) (N := 12) hx hb hts hin7 hown hO.1 hP 0 rfl rfl 6 (by decide) hf_22 (fun _ h9 => h9) rfl dX7_remember_19 ?_
        refine lv_iload_n hx hb dX7_remember_22 rfl (lv_at hl 1 rfl) ?_
        refine lv_aload_n hx hb dX7_remember_23 rfl (lv_at hl 0 rfl) ?_
        refine va_get (D := G.1) (ci := 5) (v := .ref (b + 5)) (C := RX7) (T := TX7) (N := 12) hx hb hts hin7 hown hO.1 hP 0 rfl rfl 6 (by decide) hf_22 (fun _ h9 => h9) rfl dX7_remember_24 ?_
        refine lv_iload_n hx hb dX7_remember_27 rfl (lv_at hl 1 rfl) ?_
        refine lv_sipush (v := 327) hx hb dX7_remember_28 (by decide) ?_
        refine iadd_n (a := k) (b := 327) hx hb dX7_remember_31 ?_
        refine iald_n hx hb hO.1 hP 5 0 rfl rfl (by omega) (by decide) dX7_remember_32 ?_
        refine iast_n hx hb hO.1 hP (md_D b M2 hA) hS 5 0 rfl rfl (by omega) (by decide) dX7_remember_33 (fun H locs hP hD hS => ?_)
        have hP : Md G b (oD M2 (upd (mD M2) k ((mD M2) (k + 327)))) H := md_pD hP
        refine lv_iinc (v := nI (k + 1)) (lv' := [(1, .int (nI (k + 1))), (0, .ref b)]) hx hb dX7_remember_34 hl (k := 1) rfl (nI_1 _) (by decide) rfl (fun ls hl => ?_)
        refine lv_goto (tgt := 11) hx hb dX7_remember_37 (by decide) ?_
        have hE_2 : h_X7_remember M = lp_rem M n (k + 1) (oD M2 (upd (mD M2) k ((mD M2) (k + 327)))) := (hR.trans (by rw [lp_rem, if_neg c_1]))
        exact ih (k + 1) (oD M2 (upd (mD M2) k ((mD M2) (k + 327)))) (by omega) (by omega) hC h14 hE_2 _ _ _ hP hS (lv_sub hl [1, 0] rfl)
  refine lv_aload_n hx hb dX7_remember_0 rfl (lv_at hl 0 rfl) ?_
  refine va_get (D := G.1) (ci := 5) (v := .int (mC M)) (C := RX7) (T := TX7) (N := 12) hx hb hts hin7 hown hO.1 hP 0 rfl rfl 7 (by decide) hf_202 (fun _ h9 => h9) rfl dX7_remember_1 ?_
  refine lv_bipush (v := 14) hx hb dX7_remember_4 (by decide) ?_
  refine lv_icmp_ne (tgt := 50) hx hb dX7_remember_6 (by decide) (fun c_3 => ?_) (fun c_3 => ?_)
  · refine lv_aload_n hx hb dX7_remember_50 rfl (lv_at hl 0 rfl) ?_
    refine va_get (D := G.1) (ci := 5) (v := .ref (b + 2)) (C := RX7) (T := TX7) (N := 12) hx hb hts hin7 hown hO.1 hP 0 rfl rfl 3 (by decide) hf_13 (fun _ h9 => h9) rfl dX7_remember_51 ?_
    refine lv_iconst (v := 0) hx hb dX7_remember_54 (by decide) ?_
    refine lv_aload_n hx hb dX7_remember_55 rfl (lv_at hl 0 rfl) ?_
    refine va_get (D := G.1) (ci := 5) (v := .ref (b + 5)) (C := RX7) (T := TX7) (N := 12) hx hb hts hin7 hown hO.1 hP 0 rfl rfl 6 (by decide) hf_22 (fun _ h9 => h9) rfl dX7_remember_56 ?_
    refine lv_sipush (v := 327) hx hb dX7_remember_59 (by decide) ?_
    refine lv_aload_n hx hb dX7_remember_62 rfl (lv_at hl 0 rfl) ?_
    refine va_get (D := G.1) (ci := 5) (v := .int (mC M)) (C := RX7) (T := TX7) (N := 12) hx hb hts hin7 hown hO.1 hP 0 rfl rfl 7 (by decide) hf_202 (fun _ h9 => h9) rfl dX7_remember_63 ?_
    rw [hac]
    refine imul_n (a := 327) (b := ac M) hx hb dX7_remember_66 ?_
    refine cl_mv (rS (As := [.ref (b + 2), .int 0, .ref (b + 5), .int (nI (327 * (ac M)))]) (rest := []) ⟨hx, hb, hml, hown, hts⟩ (c_X7_copyState l G (b + 2) 327 (mN M) (b + 5) 4578 (mD M) 0 (327 * (ac M)) (by omega) (by have h9 := lt14 hac hac14 (by assumption); omega) (by decide) (by decide) (by omega)) (va_cwS 4 hts gX7_remember_X7_copyState rfl rfl rfl (by decide +kernel) ⟨Nat.le_of_ble_eq_true rfl, Nat.le_of_ble_eq_true rfl⟩) (va_P.sub hP [2, 5] rfl) hO rfl hl.1 (Nat.le_of_ble_eq_true rfl) dX7_remember_67 ⟨Nat.le_of_ble_eq_true rfl, Nat.le_of_ble_eq_true rfl⟩) hS (fun q h => hA q (by simp only [two, blk] at *; omega)) (fun H locs hP1 hz hk hS => ?_)
    have hP : Md G b (oD M (h_X7_copyState (mN M) (mD M) 0 (327 * (ac M)))) H := md_pD (two_row 2 5 hP (md_D b M hA) rfl rfl hP1 hk)
    refine lv_aload_n hx hb dX7_remember_70 rfl (lv_at hl 0 rfl) ?_
    refine lv_dup hx hb dX7_remember_71 rfl ?_
    refine va_get (D := G.1) (ci := 5) (v := .int (mC (oD M (h_X7_copyState (mN M) (mD M) 0 (327 * (ac M)))))) (C := RX7) (T := TX7) (N := 12) hx hb hts hin7 hown hO.1 hP 0 rfl rfl 7 (by decide) hf_202 (fun _ h9 => h9) rfl dX7_remember_72 ?_
    refine lv_iconst (v := 1) hx hb dX7_remember_75 (by decide) ?_
    refine lv_iadd hx hb dX7_remember_76 ?_
    refine va_put (D := G.1) (ci := 5) (v := .int ((mC (oD M (h_X7_copyState (mN M) (mD M) 0 (327 * (ac M))))) + 1)) (ty := .int) (C := RX7) (T := TX7) (N := 12) hx hb hts hin7 tyX7 tyX7_ok nmX7 hown hO.1 hP (md_D b (oD M (h_X7_copyState (mN M) (mD M) 0 (327 * (ac M)))) hA) hS 0 rfl rfl 7 (by decide) hf_202 (fun _ h9 => h9) rfl (by decide +kernel) rfl rfl (Nat.le_of_ble_eq_true rfl) dX7_remember_77 (fun H locs hP hD hS => ?_)
    have hP : Md G b (oC (oD M (h_X7_copyState (mN M) (mD M) 0 (327 * (ac M)))) ((mC (oD M (h_X7_copyState (mN M) (mD M) 0 (327 * (ac M))))) + 1)) H := md_pC hP
    have hE : h_X7_remember M = (oC (oD M (h_X7_copyState (mN M) (mD M) 0 (327 * (ac M)))) ((mC (oD M (h_X7_copyState (mN M) (mD M) 0 (327 * (ac M))))) + 1)) := (by rw [h_X7_remember, if_neg c_3])
    exact W.vret hx hb hr (fun t ht hW => ⟨rfl, by rw [ht, hE]; exact hP, hS.F ht⟩) hS.2.2 dX7_remember_80
  · refine lv_iconst (v := 0) hx hb dX7_remember_9 (by decide) ?_
    refine lv_istore_n (lv' := [(1, .int 0), (0, .ref b)]) hx hb dX7_remember_10 rfl hl (by decide) rfl (fun ls hl => ?_)
    have hE_4 : h_X7_remember M = lp_rem M (4251 + 1) 0 M := (by rw [h_X7_remember, if_pos c_3])
    exact loop11 (4251 + 1) 0 M (Nat.zero_le _) (by omega) rfl (by assumption) hE_4 _ _ _ hP hS (lv_sub hl [1, 0] rfl)

theorem remL (M : Mo) : ∀ (n k : Nat) (M2 : Mo), mN (lp_rem M n k M2) = mN M2 ∧ mA (lp_rem M n k M2) = mA M2 := by
  intro n
  induction n with
  | zero => intro k M2; exact ⟨rfl, rfl⟩
  | succ n ih =>
    intro k M2
    rw [lp_rem]
    split
    · simp only [mN_oC, mN_oD, mA_oC, mA_oD]
      exact ⟨trivial, trivial⟩
    · exact ih ..
theorem rem_N (M : Mo) : mN (h_X7_remember M) = mN M := by
  rw [h_X7_remember]
  split
  · exact (remL ..).1
  · rw [mN_oC, mN_oD]
theorem ref_C (M : Mo) (w : Int32) : mC (h_X7_refused M w).2 = mC M := by
  rw [ref_M]
  rfl
theorem ref_ac (M : Mo) (w : Int32) : ac (h_X7_refused M w).2 = ac M := by rw [ac, ref_C, ac]
