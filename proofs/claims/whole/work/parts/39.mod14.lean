def sp (M : Mo) : Nat := (mS M).toNatClampNeg
/-- the text and the place in it -/
def TI (M : Mo) : Prop := mZ M = nI (zz M) ∧ zz M ≤ 120 ∧ mS M = nI (sp M) ∧ sp M ≤ zz M
theorem TI.lt {M : Mo} (h : TI M) (hn : ¬ mZ M ≤ mS M) : sp M < zz M := by
  obtain ⟨h1, h2, h3, h4⟩ := h
  rw [h1, h3] at hn
  exact kN hn (by omega) (by omega)
theorem TI.ne {M : Mo} (h : TI M) (hn : ¬ mS M = mZ M) : sp M < zz M := by
  obtain ⟨h1, h2, h3, h4⟩ := h
  rcases Nat.lt_or_ge (sp M) (zz M) with q | q
  · exact q
  · exact absurd (by rw [h1, h3, show sp M = zz M by omega]) hn
theorem TI.rd {M : Mo} (h : TI M) (hl : sp M < zz M) : vp_in (mS M) 120 := by
  obtain ⟨h1, h2, h3, h4⟩ := h
  rw [h3]
  exact vp_in_nI (by omega) (by omega)
theorem TI.up {M : Mo} (h : TI M) (hl : sp M < zz M) : TI (oS M (mS M + 1)) ∧ sp (oS M (mS M + 1)) = sp M + 1 ∧ zz (oS M (mS M + 1)) = zz M := by
  obtain ⟨h1, h2, h3, h4⟩ := h
  have e : sp (oS M (mS M + 1)) = sp M + 1 := by rw [sp, mS_oS, h3, nI_1, nI_clamp (by omega)]
  have ez : zz (oS M (mS M + 1)) = zz M := by rw [zz, mZ_oS, zz]
  refine ⟨⟨by rw [mZ_oS, ez]; exact h1, by rw [ez]; exact h2, by rw [mS_oS, e, h3, nI_1], by omega⟩, e, ez⟩
theorem in_m1 : f_X7_in ((-1 : Int32).toInt64) 0 9 = 0 := by decide +kernel
theorem TI_same {M M' : Mo} (h : TI M) (hz : mZ M' = mZ M) (hs : mS M' = mS M) : TI M' ∧ sp M' = sp M ∧ zz M' = zz M := by
  obtain ⟨h1, h2, h3, h4⟩ := h
  have e : sp M' = sp M := by rw [sp, hs, sp]
  have ez : zz M' = zz M := by rw [zz, hz, zz]
  exact ⟨⟨by rw [hz, ez]; exact h1, by omega, by rw [hs, e]; exact h3, by omega⟩, e, ez⟩

def lp_rFig (ah lo hi : Int32) : Nat → Int32 → Nat → Mo → Int32 × Mo
  | 0, _, _, M2 => (0, M2)
  | n + 1, v, u, M2 => if (nI u) ≤ 0 then (if ah = (-1) then ((-1), M2) else
      (v, M2)) else
    if ah = (-1) then ((-1), M2) else
    if (mZ M2) ≤ (mS M2) then ((-1), M2) else
    if (f_X7_in ((((mT M2) (mS M2).toNatClampNeg) - 48).toInt64) 0 9) = 0 then ((-1), M2) else
    if hi < (v + ((((mT M2) (mS M2).toNatClampNeg) - 48) * (nI u))) then ((-1), M2) else
    if lo ≤ (((v + ((((mT M2) (mS M2).toNatClampNeg) - 48) * (nI u))) + (nI u)) - 1) then lp_rFig ah lo hi n (v + ((((mT M2) (mS M2).toNatClampNeg) - 48) * (nI u))) (u / 10) (oS M2 ((mS M2) + 1)) else
    ((-1), M2)
def h_X7_figures (M : Mo) (ah : Int32) (di : Int32) (lo : Int32) (hi : Int32) : Int32 × Mo :=
  if di = 2 then lp_rFig ah lo hi 11 0 10 M else
  lp_rFig ah lo hi 11 0 1 M
set_option maxHeartbeats 4000000 in
set_option maxRecDepth 100000 in
theorem c_X7_figures (l : Launch) (G : GG) (b : Nat) (M : Mo) (ah : Int32) (di : Int32) (lo : Int32) (hi : Int32) (hTI : TI M) : Met l yX7_figures wsX7_figures ({ frames := 1, cells := 0, slots := 0, locals := 25 }) (PcH G [.ref b, .int ah, .int di, .int lo, .int hi] (Md G b M)) (QM (some (.int ((h_X7_figures M ah di lo hi).1))) (Md G b ((h_X7_figures M ah di lo hi).2)) (blk b (b + 8))) 0 0 (blk b (b + 8)) := by
  refine metH (cc := cX7_figures) (maxL := 9) (ret := (some .int)) (by decide) rfl ?_
  intro p e s m below meth cd hx hb hr hml hown hts hlocks hP hO
  have hin7 : ∀ w ∈ u_ws RX7 TX7 12, w ∈ wsX7_figures := by decide +kernel
  have hf_7 := hts (.fieldLink RX7 7 "CurbCarsModel" "text" "[I") (by decide +kernel)
  have hf_134 := hts (.fieldLink RX7 134 "CurbCarsModel" "size" "I") (by decide +kernel)
  have hf_140 := hts (.fieldLink RX7 140 "CurbCarsModel" "spot" "I") (by decide +kernel)
  have hA : ∀ q, (blk b (b + 8)) q → (blk b (b + 8)) q := fun _ h => h
  have hS : va_S (blk b (b + 8)) s.heap s.heap [] := va_S.rf
  have hl := lv_entry ([.ref b, .int ah, .int di, .int lo, .int hi]) (n := 9) (Nat.le_of_ble_eq_true rfl)
  rw [lg_entry_eq]
  generalize (lg_sl ([.ref b, .int ah, .int di, .int lo, .int hi]) ++ List.replicate (9 - (lg_sl ([.ref b, .int ah, .int di, .int lo, .int hi])).length) Slot.unset).toArray = ls at hl ⊢
  have hl : lv_has ls 9 [(0, .ref b), (1, .int ah), (2, .int di), (3, .int lo), (4, .int hi)] := hl
  have loop16 : ∀ (n : Nat) (v : Int32) (u : Nat) (M2 : Mo), u < n → u ≤ 10 → TI M2 → h_X7_figures M ah di lo hi = lp_rFig ah lo hi n v u M2 → ∀ (H : Heap) (locs : List Loc) (ls : Array Slot), Md G b M2 H → va_S (blk b (b + 8)) s.heap H locs → lv_has ls 9 [(0, .ref b), (1, .int ah), (3, .int lo), (4, .int hi), (5, .int v), (6, .int (nI u))] → W p l e (headSpec wsX7_figures ({ frames := 1, cells := 0, slots := 0, locals := 25 } : Room)).room s m ([.ref b, .int ah, .int di, .int lo, .int hi] : List Value).toArray below meth cd H locs 0 0 (MQ below (QM (some (.int ((h_X7_figures M ah di lo hi).1))) (Md G b ((h_X7_figures M ah di lo hi).2)) (blk b (b + 8))) ([.ref b, .int ah, .int di, .int lo, .int hi] : List Value).toArray s 0 0 (blk b (b + 8))) (F0 m 16 ls []) := by
    intro n
    induction n with
    | zero =>
      intro v u M2 hn hu10 hTI hR H locs ls hP hS hl
      exact absurd hn (by omega)
    | succ n ih =>
      intro v u M2 hn hu10 hTI hR H locs ls hP hS hl
      refine lv_iload hx hb dX7_figures_16 (lv_at hl 5 rfl) ?_
      refine lv_if_le (tgt := 122) hx hb dX7_figures_18 (by decide) (fun c_1 => ?_) (fun c_1 => ?_)
      · refine lv_iload_n hx hb dX7_figures_122 rfl (lv_at hl 1 rfl) ?_
        refine lv_iconst (v := -1) hx hb dX7_figures_123 (by decide) ?_
        refine lv_icmp_ne (tgt := 131) hx hb dX7_figures_124 (by decide) (fun c_2 => ?_) (fun c_2 => ?_)
        · refine lv_iload hx hb dX7_figures_131 (lv_at hl 4 rfl) ?_
          have hE : h_X7_figures M ah di lo hi = (v, M2) := (hR.trans (by rw [lp_rFig, if_pos c_1, if_neg c_2]))
          have hE2 := snd_of hE
          exact W.iret hx hb hr (fun t ht hW => ⟨by rw [fst_of hE], by rw [ht, hE2]; exact hP, hS.F ht⟩) hS.2.2 dX7_figures_133
        · refine lv_iconst (v := -1) hx hb dX7_figures_127 (by decide) ?_
          refine lv_goto (tgt := 133) hx hb dX7_figures_128 (by decide) ?_
          have hE : h_X7_figures M ah di lo hi = ((-1), M2) := (hR.trans (by rw [lp_rFig, if_pos c_1, if_pos c_2]))
          have hE2 := snd_of hE
          exact W.iret hx hb hr (fun t ht hW => ⟨by rw [fst_of hE], by rw [ht, hE2]; exact hP, hS.F ht⟩) hS.2.2 dX7_figures_133
      · refine lv_iload_n hx hb dX7_figures_21 rfl (lv_at hl 1 rfl) ?_
        refine lv_iconst (v := -1) hx hb dX7_figures_22 (by decide) ?_
        refine lv_icmp_eq (tgt := 122) hx hb dX7_figures_23 (by decide) (fun c_3 => ?_) (fun c_3 => ?_)
        · refine lv_iload_n hx hb dX7_figures_122 rfl (lv_at hl 1 rfl) ?_
          refine lv_iconst (v := -1) hx hb dX7_figures_123 (by decide) ?_
          refine lv_icmp_ne (tgt := 131) hx hb dX7_figures_124 (by decide) (fun c_4 => ?_) (fun c_4 => ?_)
          · exact absurd c_3 c_4
          · refine lv_iconst (v := -1) hx hb dX7_figures_127 (by decide) ?_
            refine lv_goto (tgt := 133) hx hb dX7_figures_128 (by decide) ?_
            have hE : h_X7_figures M ah di lo hi = ((-1), M2) := (hR.trans (by rw [lp_rFig, if_neg c_1, if_pos c_3]))
            have hE2 := snd_of hE
            exact W.iret hx hb hr (fun t ht hW => ⟨by rw [fst_of hE], by rw [ht, hE2]; exact hP, hS.F ht⟩) hS.2.2 dX7_figures_133
        · refine lv_aload_n hx hb dX7_figures_26 rfl (lv_at hl 0 rfl) ?_
          refine va_get (D := G.1) (ci := 5) (v := .int (mS M2)) (C := RX7) (T := TX7) (N := 12) hx hb hts hin7 hown hO.1 hP 0 rfl rfl 10 (by decide) hf_140 (fun _ h9 => h9) rfl dX7_figures_27 ?_
          refine lv_aload_n hx hb dX7_figures_30 rfl (lv_at hl 0 rfl) ?_
          refine va_get (D := G.1) (ci := 5) (v := .int (mZ M2)) (C := RX7) (T := TX7) (N := 12) hx hb hts hin7 hown hO.1 hP 0 rfl rfl 2 (by decide) hf_134 (fun _ h9 => h9) rfl dX7_figures_31 ?_
          refine lv_icmp_ge (tgt := 52) hx hb dX7_figures_34 (by decide) (fun c_5 => ?_) (fun c_5 => ?_)
          · refine lv_iconst (v := -1) hx hb dX7_figures_52 (by decide) ?_
            refine lv_istore (lv' := [(7, .int (-1)), (0, .ref b), (1, .int ah), (3, .int lo), (4, .int hi), (5, .int v), (6, .int (nI u))]) hx hb dX7_figures_53 hl (by decide) rfl (fun ls hl => ?_)
            refine lv_iload hx hb dX7_figures_55 (lv_at hl 5 rfl) ?_
            refine lv_iload hx hb dX7_figures_57 (lv_at hl 0 rfl) ?_
            refine lv_iload hx hb dX7_figures_59 (lv_at hl 6 rfl) ?_
            refine lv_imul hx hb dX7_figures_61 ?_
            refine lv_iadd hx hb dX7_figures_62 ?_
            refine lv_istore (lv' := [(8, .int (v + ((-1) * (nI u)))), (7, .int (-1)), (0, .ref b), (1, .int ah), (3, .int lo), (4, .int hi), (5, .int v), (6, .int (nI u))]) hx hb dX7_figures_63 hl (by decide) rfl (fun ls hl => ?_)
            refine lv_iload hx hb dX7_figures_65 (lv_at hl 1 rfl) ?_
            refine lv_i2l (v := (-1).toInt64) hx hb dX7_figures_67 rfl ?_
            refine lv_lconst (v := 0) hx hb dX7_figures_68 (by decide) ?_
            refine lv_ldc2 (v := 9) hx hb hown (hts (.constantLong RX7 143 (9)) (by decide +kernel)) dX7_figures_69 ?_
            refine cl_pi (rS (As := [.long ((-1).toInt64), .long 0, .long 9]) (rest := []) ⟨hx, hb, hml, hown, hts⟩ (c_X7_in l G ((-1).toInt64) 0 9) (va_cwS 3 hts gX7_figures_X7_in rfl rfl rfl (by decide +kernel) ⟨Nat.le_of_ble_eq_true rfl, Nat.le_of_ble_eq_true rfl⟩) trivial hO rfl hl.1 (Nat.le_of_ble_eq_true rfl) dX7_figures_72 ⟨Nat.le_of_ble_eq_true rfl, Nat.le_of_ble_eq_true rfl⟩) ?_
            refine lv_if_eq (tgt := 96) hx hb dX7_figures_75 (by decide) (fun c_6 => ?_) (fun c_6 => ?_)
            · refine lv_iconst (v := -1) hx hb dX7_figures_96 (by decide) ?_
              have hE : h_X7_figures M ah di lo hi = ((-1), M2) := (hR.trans (by rw [lp_rFig, if_neg c_1, if_neg c_3, if_pos c_5]))
              have hE2 := snd_of hE
              exact W.iret hx hb hr (fun t ht hW => ⟨by rw [fst_of hE], by rw [ht, hE2]; exact hP, hS.F ht⟩) hS.2.2 dX7_figures_97
            · exact absurd in_m1 c_6
          · refine lv_aload_n hx hb dX7_figures_37 rfl (lv_at hl 0 rfl) ?_
            refine va_get (D := G.1) (ci := 5) (v := .ref (b + 1)) (C := RX7) (T := TX7) (N := 12) hx hb hts hin7 hown hO.1 hP 0 rfl rfl 1 (by decide) hf_7 (fun _ h9 => h9) rfl dX7_figures_38 ?_
            refine lv_aload_n hx hb dX7_figures_41 rfl (lv_at hl 0 rfl) ?_
            refine va_get (D := G.1) (ci := 5) (v := .int (mS M2)) (C := RX7) (T := TX7) (N := 12) hx hb hts hin7 hown hO.1 hP 0 rfl rfl 10 (by decide) hf_140 (fun _ h9 => h9) rfl dX7_figures_42 ?_
            refine va_iald hx hb hO.1 hP 1 0 rfl rfl (hTI.rd (hTI.lt (by assumption))) dX7_figures_45 ?_
            refine lv_bipush (v := 48) hx hb dX7_figures_46 (by decide) ?_
            refine lv_isub hx hb dX7_figures_48 ?_
            refine lv_goto (tgt := 53) hx hb dX7_figures_49 (by decide) ?_
            refine lv_istore (lv' := [(7, .int (((mT M2) (mS M2).toNatClampNeg) - 48)), (0, .ref b), (1, .int ah), (3, .int lo), (4, .int hi), (5, .int v), (6, .int (nI u))]) hx hb dX7_figures_53 hl (by decide) rfl (fun ls hl => ?_)
            refine lv_iload hx hb dX7_figures_55 (lv_at hl 5 rfl) ?_
            refine lv_iload hx hb dX7_figures_57 (lv_at hl 0 rfl) ?_
            refine lv_iload hx hb dX7_figures_59 (lv_at hl 6 rfl) ?_
            refine lv_imul hx hb dX7_figures_61 ?_
            refine lv_iadd hx hb dX7_figures_62 ?_
            refine lv_istore (lv' := [(8, .int (v + ((((mT M2) (mS M2).toNatClampNeg) - 48) * (nI u)))), (7, .int (((mT M2) (mS M2).toNatClampNeg) - 48)), (0, .ref b), (1, .int ah), (3, .int lo), (4, .int hi), (5, .int v), (6, .int (nI u))]) hx hb dX7_figures_63 hl (by decide) rfl (fun ls hl => ?_)
            refine lv_iload hx hb dX7_figures_65 (lv_at hl 1 rfl) ?_
            refine lv_i2l (v := (((mT M2) (mS M2).toNatClampNeg) - 48).toInt64) hx hb dX7_figures_67 rfl ?_
            refine lv_lconst (v := 0) hx hb dX7_figures_68 (by decide) ?_
            refine lv_ldc2 (v := 9) hx hb hown (hts (.constantLong RX7 143 (9)) (by decide +kernel)) dX7_figures_69 ?_
            refine cl_pi (rS (As := [.long ((((mT M2) (mS M2).toNatClampNeg) - 48).toInt64), .long 0, .long 9]) (rest := []) ⟨hx, hb, hml, hown, hts⟩ (c_X7_in l G ((((mT M2) (mS M2).toNatClampNeg) - 48).toInt64) 0 9) (va_cwS 3 hts gX7_figures_X7_in rfl rfl rfl (by decide +kernel) ⟨Nat.le_of_ble_eq_true rfl, Nat.le_of_ble_eq_true rfl⟩) trivial hO rfl hl.1 (Nat.le_of_ble_eq_true rfl) dX7_figures_72 ⟨Nat.le_of_ble_eq_true rfl, Nat.le_of_ble_eq_true rfl⟩) ?_
            refine lv_if_eq (tgt := 96) hx hb dX7_figures_75 (by decide) (fun c_7 => ?_) (fun c_7 => ?_)
            · refine lv_iconst (v := -1) hx hb dX7_figures_96 (by decide) ?_
              have hE : h_X7_figures M ah di lo hi = ((-1), M2) := (hR.trans (by rw [lp_rFig, if_neg c_1, if_neg c_3, if_neg c_5, if_pos c_7]))
              have hE2 := snd_of hE
              exact W.iret hx hb hr (fun t ht hW => ⟨by rw [fst_of hE], by rw [ht, hE2]; exact hP, hS.F ht⟩) hS.2.2 dX7_figures_97
            · refine lv_iload hx hb dX7_figures_78 (lv_at hl 0 rfl) ?_
              refine lv_iload hx hb dX7_figures_80 (lv_at hl 5 rfl) ?_
              refine lv_icmp_gt (tgt := 96) hx hb dX7_figures_82 (by decide) (fun c_8 => ?_) (fun c_8 => ?_)
              · refine lv_iconst (v := -1) hx hb dX7_figures_96 (by decide) ?_
                have hE : h_X7_figures M ah di lo hi = ((-1), M2) := (hR.trans (by rw [lp_rFig, if_neg c_1, if_neg c_3, if_neg c_5, if_neg c_7, if_pos c_8]))
                have hE2 := snd_of hE
                exact W.iret hx hb hr (fun t ht hW => ⟨by rw [fst_of hE], by rw [ht, hE2]; exact hP, hS.F ht⟩) hS.2.2 dX7_figures_97
              · refine lv_iload hx hb dX7_figures_85 (lv_at hl 0 rfl) ?_
                refine lv_iload hx hb dX7_figures_87 (lv_at hl 7 rfl) ?_
                refine lv_iadd hx hb dX7_figures_89 ?_
                refine lv_iconst (v := 1) hx hb dX7_figures_90 (by decide) ?_
                refine lv_isub hx hb dX7_figures_91 ?_
                refine lv_iload_n hx hb dX7_figures_92 rfl (lv_at hl 4 rfl) ?_
                refine lv_icmp_ge (tgt := 98) hx hb dX7_figures_93 (by decide) (fun c_9 => ?_) (fun c_9 => ?_)
                · refine lv_iload hx hb dX7_figures_98 (lv_at hl 0 rfl) ?_
                  refine lv_istore (lv' := [(5, .int (v + ((((mT M2) (mS M2).toNatClampNeg) - 48) * (nI u)))), (8, .int (v + ((((mT M2) (mS M2).toNatClampNeg) - 48) * (nI u)))), (7, .int (((mT M2) (mS M2).toNatClampNeg) - 48)), (0, .ref b), (1, .int ah), (3, .int lo), (4, .int hi), (6, .int (nI u))]) hx hb dX7_figures_100 hl (by decide) rfl (fun ls hl => ?_)
                  refine lv_aload_n hx hb dX7_figures_102 rfl (lv_at hl 3 rfl) ?_
                  refine lv_dup hx hb dX7_figures_103 rfl ?_
                  refine va_get (D := G.1) (ci := 5) (v := .int (mS M2)) (C := RX7) (T := TX7) (N := 12) hx hb hts hin7 hown hO.1 hP 0 rfl rfl 10 (by decide) hf_140 (fun _ h9 => h9) rfl dX7_figures_104 ?_
                  refine lv_iconst (v := 1) hx hb dX7_figures_107 (by decide) ?_
                  refine lv_iadd hx hb dX7_figures_108 ?_
                  refine va_put (D := G.1) (ci := 5) (v := .int ((mS M2) + 1)) (ty := .int) (C := RX7) (T := TX7) (N := 12) hx hb hts hin7 tyX7 tyX7_ok nmX7 hown hO.1 hP (md_D b M2 hA) hS 0 rfl rfl 10 (by decide) hf_140 (fun _ h9 => h9) rfl (by decide +kernel) rfl rfl (Nat.le_of_ble_eq_true rfl) dX7_figures_109 (fun H locs hP hD hS => ?_)
                  have hP : Md G b (oS M2 ((mS M2) + 1)) H := md_pS hP
                  refine lv_iload hx hb dX7_figures_112 (lv_at hl 7 rfl) ?_
                  refine lv_bipush (v := 10) hx hb dX7_figures_114 (by decide) ?_
                  refine idiv_n (a := u) (b := 10) hx hb ⟨by omega, by omega, by omega⟩ dX7_figures_116 ?_
                  refine lv_istore (lv' := [(6, .int (nI (u / 10))), (5, .int (v + ((((mT M2) (mS M2).toNatClampNeg) - 48) * (nI u)))), (8, .int (v + ((((mT M2) (mS M2).toNatClampNeg) - 48) * (nI u)))), (7, .int (((mT M2) (mS M2).toNatClampNeg) - 48)), (0, .ref b), (1, .int ah), (3, .int lo), (4, .int hi)]) hx hb dX7_figures_117 hl (by decide) rfl (fun ls hl => ?_)
                  refine lv_goto (tgt := 16) hx hb dX7_figures_119 (by decide) ?_
                  have hE_10 : h_X7_figures M ah di lo hi = lp_rFig ah lo hi n (v + ((((mT M2) (mS M2).toNatClampNeg) - 48) * (nI u))) (u / 10) (oS M2 ((mS M2) + 1)) := (hR.trans (by rw [lp_rFig, if_neg c_1, if_neg c_3, if_neg c_5, if_neg c_7, if_neg c_8, if_pos c_9]))
                  exact ih (v + ((((mT M2) (mS M2).toNatClampNeg) - 48) * (nI u))) (u / 10) (oS M2 ((mS M2) + 1)) (by have h9 : u ≠ 0 := fun z => (by assumption : ¬ nI u ≤ 0) (by rw [z]; exact (by decide : nI 0 ≤ 0)); omega) (by omega) (hTI.up (hTI.lt (by assumption))).1 hE_10 _ _ _ hP hS (lv_sub hl [4, 5, 6, 7, 1, 0] rfl)
                · refine lv_iconst (v := -1) hx hb dX7_figures_96 (by decide) ?_
                  have hE : h_X7_figures M ah di lo hi = ((-1), M2) := (hR.trans (by rw [lp_rFig, if_neg c_1, if_neg c_3, if_neg c_5, if_neg c_7, if_neg c_8, if_neg c_9]))
                  have hE2 := snd_of hE
                  exact W.iret hx hb hr (fun t ht hW => ⟨by rw [fst_of hE], by rw [ht, hE2]; exact hP, hS.F ht⟩) hS.2.2 dX7_figures_97
  refine lv_iconst (v := 0) hx hb dX7_figures_0 (by decide) ?_
  refine lv_istore (lv' := [(5, .int 0), (0, .ref b), (1, .int ah), (2, .int di), (3, .int lo), (4, .int hi)]) hx hb dX7_figures_1 hl (by decide) rfl (fun ls hl => ?_)
  refine lv_iload_n hx hb dX7_figures_3 rfl (lv_at hl 3 rfl) ?_
  refine lv_iconst (v := 2) hx hb dX7_figures_4 (by decide) ?_
  refine lv_icmp_ne (tgt := 13) hx hb dX7_figures_5 (by decide) (fun c_11 => ?_) (fun c_11 => ?_)
  · refine lv_iconst (v := 1) hx hb dX7_figures_13 (by decide) ?_
    refine lv_istore (lv' := [(6, .int 1), (5, .int 0), (0, .ref b), (1, .int ah), (2, .int di), (3, .int lo), (4, .int hi)]) hx hb dX7_figures_14 hl (by decide) rfl (fun ls hl => ?_)
    have hE_12 : h_X7_figures M ah di lo hi = lp_rFig ah lo hi 11 0 1 M := (by rw [h_X7_figures, if_neg c_11])
    exact loop16 11 0 1 M (by omega) (by omega) hTI hE_12 _ _ _ hP hS (lv_sub hl [2, 3, 5, 6, 1, 0] rfl)
  · refine lv_bipush (v := 10) hx hb dX7_figures_8 (by decide) ?_
    refine lv_goto (tgt := 14) hx hb dX7_figures_10 (by decide) ?_
    refine lv_istore (lv' := [(6, .int 10), (5, .int 0), (0, .ref b), (1, .int ah), (2, .int di), (3, .int lo), (4, .int hi)]) hx hb dX7_figures_14 hl (by decide) rfl (fun ls hl => ?_)
    have hE_13 : h_X7_figures M ah di lo hi = lp_rFig ah lo hi 11 0 10 M := (by rw [h_X7_figures, if_pos c_11])
    exact loop16 11 0 10 M (by omega) (by omega) hTI hE_13 _ _ _ hP hS (lv_sub hl [2, 3, 5, 6, 1, 0] rfl)

theorem done_1 (M : Mo) (is : Int32) : ¬ (h_X7_done M is).1 = 0 := by
  rw [h_X7_done]
  repeat' split
  all_goals exact (by decide : ¬ (1 : Int32) = 0)
theorem figS (ah lo hi : Int32) : ∀ (n : Nat) (v : Int32) (u : Nat) (M2 : Mo), (lp_rFig ah lo hi n v u M2).2 = oS M2 (mS (lp_rFig ah lo hi n v u M2).2) := by
  intro n
  induction n with
  | zero => intro v u M2; rfl
  | succ n ih =>
    intro v u M2
    rw [lp_rFig]
    repeat' split
    all_goals first | rfl | exact ih ..
theorem fig_S (M : Mo) (ah di lo hi : Int32) : (h_X7_figures M ah di lo hi).2 = oS M (mS (h_X7_figures M ah di lo hi).2) := by
  rw [h_X7_figures]
  split
  · exact figS ..
  · exact figS ..
theorem fig_R (M : Mo) (ah di lo hi : Int32) : mR (h_X7_figures M ah di lo hi).2 = mR M := by rw [fig_S, mR_oS]
/-- the text is the same, the place not below -/
def Adv (M M' : Mo) : Prop := TI M' ∧ sp M ≤ sp M' ∧ zz M' = zz M
theorem Adv.o {M M' M'' : Mo} (h : Adv M M') (hz : mZ M'' = mZ M') (hs : mS M'' = mS M') : Adv M M'' := by
  have q := TI_same h.1 hz hs
  exact ⟨q.1, by rw [q.2.1]; exact h.2.1, by rw [q.2.2]; exact h.2.2⟩
theorem figA (ah lo hi : Int32) (M : Mo) : ∀ (n : Nat) (v : Int32) (u : Nat) (M2 : Mo), Adv M M2 → Adv M (lp_rFig ah lo hi n v u M2).2 := by
  intro n
  induction n with
  | zero => intro v u M2 h; exact h
  | succ n ih =>
    intro v u M2 h
    rw [lp_rFig]
    by_cases c1 : nI u ≤ 0
    · rw [if_pos c1]
      split <;> exact h
    · rw [if_neg c1]
      by_cases c2 : ah = -1
      · rw [if_pos c2]
        exact h
      · rw [if_neg c2]
        by_cases c3 : mZ M2 ≤ mS M2
        · rw [if_pos c3]
          exact h
        · rw [if_neg c3]
          have q := h.1.up (h.1.lt c3)
          have h' : Adv M (oS M2 (mS M2 + 1)) := ⟨q.1, by have := h.2.1; omega, by rw [q.2.2]; exact h.2.2⟩
          repeat' split
          all_goals first | exact h | exact ih _ _ _ h'
theorem fig_Adv {M M' : Mo} {ah di lo hi : Int32} (h : Adv M M') : Adv M (h_X7_figures M' ah di lo hi).2 := by
  rw [h_X7_figures]
  split
  · exact figA _ _ _ _ _ _ _ _ h
  · exact figA _ _ _ _ _ _ _ _ h
theorem TI.A {M : Mo} (h : TI M) : Adv M M := ⟨h, Nat.le_refl _, rfl⟩
theorem fig_TI {M : Mo} {ah di lo hi : Int32} (h : TI M) : TI (h_X7_figures M ah di lo hi).2 := (fig_Adv h.A).1
theorem fig1 (ah lo hi v : Int32) (n : Nat) (M2 : Mo) : (lp_rFig ah lo hi (n + 2) v 1 M2).1 = -1 ∨ (¬ ah = -1 ∧ lo ≤ (lp_rFig ah lo hi (n + 2) v 1 M2).1 ∧ (lp_rFig ah lo hi (n + 2) v 1 M2).1 ≤ hi) := by
  rw [lp_rFig, if_neg (by decide)]
  by_cases c2 : ah = -1
  · rw [if_pos c2]
    exact Or.inl rfl
  · rw [if_neg c2]
    by_cases c3 : mZ M2 ≤ mS M2
    · rw [if_pos c3]
      exact Or.inl rfl
    · rw [if_neg c3]
      by_cases c4 : f_X7_in ((mT M2 (mS M2).toNatClampNeg - 48).toInt64) 0 9 = 0
      · rw [if_pos c4]
        exact Or.inl rfl
      · rw [if_neg c4]
        by_cases c5 : hi < v + (mT M2 (mS M2).toNatClampNeg - 48) * nI 1
        · rw [if_pos c5]
          exact Or.inl rfl
        · rw [if_neg c5]
          by_cases c6 : lo ≤ v + (mT M2 (mS M2).toNatClampNeg - 48) * nI 1 + nI 1 - 1
          · rw [if_pos c6, lp_rFig, if_pos (by decide), if_neg c2]
            rw [show nI 1 = 1 from rfl, Int32.add_sub_cancel] at c6
            exact Or.inr ⟨c2, c6, Int32.not_lt.mp c5⟩
          · rw [if_neg c6]
            exact Or.inl rfl
theorem fig10 (ah lo hi v : Int32) (n : Nat) (M2 : Mo) : (lp_rFig ah lo hi (n + 3) v 10 M2).1 = -1 ∨ (¬ ah = -1 ∧ lo ≤ (lp_rFig ah lo hi (n + 3) v 10 M2).1 ∧ (lp_rFig ah lo hi (n + 3) v 10 M2).1 ≤ hi) := by
  rw [lp_rFig, if_neg (by decide), show 10 / 10 = 1 from rfl]
  have q := fig1 ah lo hi (v + (mT M2 (mS M2).toNatClampNeg - 48) * nI 10) n (oS M2 (mS M2 + 1))
  by_cases c2 : ah = -1
  · rw [if_pos c2]
    exact Or.inl rfl
  · rw [if_neg c2]
    repeat' split
    all_goals first | exact Or.inl rfl | exact q
theorem fig_in (M : Mo) (ah di lo hi : Int32) : (h_X7_figures M ah di lo hi).1 = -1 ∨ (¬ ah = -1 ∧ lo ≤ (h_X7_figures M ah di lo hi).1 ∧ (h_X7_figures M ah di lo hi).1 ≤ hi) := by
  rw [h_X7_figures]
  split
  · exact fig10 ..
  · exact fig1 ..
theorem rng_n {x lo hi : Int32} {b : Nat} (hl : 0 ≤ lo.toInt) (hh : hi.toInt = b) (h1 : lo ≤ x) (h2 : x ≤ hi) : ∃ j, j ≤ b ∧ x = nI j := by
  rw [Int32.le_iff_toInt_le] at h1 h2
  obtain ⟨j, hj, rfl⟩ := nI_of (x := x) (by rw [Int32.lt_iff_toInt_lt, Int32.toInt_zero]; omega)
  rw [nI_toInt hj] at h2
  exact ⟨j, by omega, rfl⟩
theorem fig_n {M : Mo} {ah di lo hi : Int32} {b : Nat} (hl : 0 ≤ lo.toInt) (hh : hi.toInt = b) (h : ¬ (h_X7_figures M ah di lo hi).1 = -1) : ¬ ah = -1 ∧ ∃ j, j ≤ b ∧ (h_X7_figures M ah di lo hi).1 = nI j := by
  have q := (fig_in M ah di lo hi).resolve_left h
  exact ⟨q.1, rng_n hl hh q.2.1 q.2.2⟩

def h_X7_carSign (M : Mo) : Int32 × Mo :=
  ((h_X7_figures M 0 2 0 39).1, (h_X7_figures M 0 2 0 39).2)
set_option maxHeartbeats 4000000 in
set_option maxRecDepth 100000 in
theorem c_X7_carSign (l : Launch) (G : GG) (b : Nat) (M : Mo) (hTI : TI M) : Met l yX7_carSign wsX7_carSign ({ frames := 2, cells := 0, slots := 0, locals := 53 }) (PcH G [.ref b] (Md G b M)) (QM (some (.int ((h_X7_carSign M).1))) (Md G b ((h_X7_carSign M).2)) (blk b (b + 8))) 0 0 (blk b (b + 8)) := by
  refine metH (cc := cX7_carSign) (maxL := 1) (ret := (some .int)) (by decide) rfl ?_
  intro p e s m below meth cd hx hb hr hml hown hts hlocks hP hO
  have hA : ∀ q, (blk b (b + 8)) q → (blk b (b + 8)) q := fun _ h => h
  have hS : va_S (blk b (b + 8)) s.heap s.heap [] := va_S.rf
  have hl := lv_entry ([.ref b]) (n := 1) (Nat.le_of_ble_eq_true rfl)
  rw [lg_entry_eq]
  generalize (lg_sl ([.ref b]) ++ List.replicate (1 - (lg_sl ([.ref b])).length) Slot.unset).toArray = ls at hl ⊢
  have hl : lv_has ls 1 [(0, .ref b)] := hl
  refine lv_aload_n hx hb dX7_carSign_0 rfl (lv_at hl 0 rfl) ?_
  refine lv_iconst (v := 0) hx hb dX7_carSign_1 (by decide) ?_
  refine lv_iconst (v := 2) hx hb dX7_carSign_2 (by decide) ?_
  refine lv_iconst (v := 0) hx hb dX7_carSign_3 (by decide) ?_
  refine lv_bipush (v := 39) hx hb dX7_carSign_4 (by decide) ?_
  refine cl_mi (rV (As := [.int 0, .int 2, .int 0, .int 39]) (rest := []) ⟨hx, hb, hml, hown, hts⟩ (c_X7_figures l G b M 0 2 0 39 (by first | exact hTI | exact (hTI.up hsz).1 | (repeat (first | with_reducible exact hTI | with_reducible exact (hTI.up hsz).1 | with_reducible apply fig_TI | with_reducible apply car_TI | with_reducible apply cel_TI)))) (cwV 4 hts gX7_carSign_X7_figures rfl rfl rfl (by decide +kernel) ⟨Nat.le_of_ble_eq_true rfl, Nat.le_of_ble_eq_true rfl⟩) (md_recv hO hP) hP hO rfl hl.1 (Nat.le_of_ble_eq_true rfl) dX7_carSign_6 ⟨Nat.le_of_ble_eq_true rfl, Nat.le_of_ble_eq_true rfl⟩) hS hA (fun H locs hP1 hz hk hS => ?_)
  have hP : Md G b ((h_X7_figures M 0 2 0 39).2) H := hP1
  have hE : h_X7_carSign M = ((h_X7_figures M 0 2 0 39).1, (h_X7_figures M 0 2 0 39).2) := (by rw [h_X7_carSign])
  have hE2 := snd_of hE
  exact W.iret hx hb hr (fun t ht hW => ⟨by rw [fst_of hE], by rw [ht, hE2]; exact hP, hS.F ht⟩) hS.2.2 dX7_carSign_9

def h_X7_cellSign (M : Mo) (ah : Int32) : Int32 × Mo :=
  ((h_X7_figures M ah 2 0 79).1, (h_X7_figures M ah 2 0 79).2)
set_option maxHeartbeats 4000000 in
set_option maxRecDepth 100000 in
theorem c_X7_cellSign (l : Launch) (G : GG) (b : Nat) (M : Mo) (ah : Int32) (hTI : TI M) : Met l yX7_cellSign wsX7_cellSign ({ frames := 2, cells := 0, slots := 0, locals := 53 }) (PcH G [.ref b, .int ah] (Md G b M)) (QM (some (.int ((h_X7_cellSign M ah).1))) (Md G b ((h_X7_cellSign M ah).2)) (blk b (b + 8))) 0 0 (blk b (b + 8)) := by
  refine metH (cc := cX7_cellSign) (maxL := 2) (ret := (some .int)) (by decide) rfl ?_
  intro p e s m below meth cd hx hb hr hml hown hts hlocks hP hO
  have hA : ∀ q, (blk b (b + 8)) q → (blk b (b + 8)) q := fun _ h => h
  have hS : va_S (blk b (b + 8)) s.heap s.heap [] := va_S.rf
  have hl := lv_entry ([.ref b, .int ah]) (n := 2) (Nat.le_of_ble_eq_true rfl)
  rw [lg_entry_eq]
  generalize (lg_sl ([.ref b, .int ah]) ++ List.replicate (2 - (lg_sl ([.ref b, .int ah])).length) Slot.unset).toArray = ls at hl ⊢
  have hl : lv_has ls 2 [(0, .ref b), (1, .int ah)] := hl
  refine lv_aload_n hx hb dX7_cellSign_0 rfl (lv_at hl 0 rfl) ?_
  refine lv_iload_n hx hb dX7_cellSign_1 rfl (lv_at hl 1 rfl) ?_
  refine lv_iconst (v := 2) hx hb dX7_cellSign_2 (by decide) ?_
  refine lv_iconst (v := 0) hx hb dX7_cellSign_3 (by decide) ?_
  refine lv_bipush (v := 79) hx hb dX7_cellSign_4 (by decide) ?_
  refine cl_mi (rV (As := [.int ah, .int 2, .int 0, .int 79]) (rest := []) ⟨hx, hb, hml, hown, hts⟩ (c_X7_figures l G b M ah 2 0 79 (by first | exact hTI | exact (hTI.up hsz).1 | (repeat (first | with_reducible exact hTI | with_reducible exact (hTI.up hsz).1 | with_reducible apply fig_TI | with_reducible apply car_TI | with_reducible apply cel_TI)))) (cwV 4 hts gX7_cellSign_X7_figures rfl rfl rfl (by decide +kernel) ⟨Nat.le_of_ble_eq_true rfl, Nat.le_of_ble_eq_true rfl⟩) (md_recv hO hP) hP hO rfl hl.1 (Nat.le_of_ble_eq_true rfl) dX7_cellSign_6 ⟨Nat.le_of_ble_eq_true rfl, Nat.le_of_ble_eq_true rfl⟩) hS hA (fun H locs hP1 hz hk hS => ?_)
  have hP : Md G b ((h_X7_figures M ah 2 0 79).2) H := hP1
  have hE : h_X7_cellSign M ah = ((h_X7_figures M ah 2 0 79).1, (h_X7_figures M ah 2 0 79).2) := (by rw [h_X7_cellSign])
  have hE2 := snd_of hE
  exact W.iret hx hb hr (fun t ht hW => ⟨by rw [fst_of hE], by rw [ht, hE2]; exact hP, hS.F ht⟩) hS.2.2 dX7_cellSign_9

theorem car_TI {M : Mo} (h : TI M) : TI (h_X7_carSign M).2 := by
  rw [h_X7_carSign]
  exact fig_TI h
theorem cel_TI {M : Mo} {ah : Int32} (h : TI M) : TI (h_X7_cellSign M ah).2 := by
  rw [h_X7_cellSign]
  exact fig_TI h
theorem car_Adv {M M' : Mo} (h : Adv M M') : Adv M (h_X7_carSign M').2 := by
  rw [h_X7_carSign]
  exact fig_Adv h
theorem cel_Adv {M M' : Mo} {ah : Int32} (h : Adv M M') : Adv M (h_X7_cellSign M' ah).2 := by
  rw [h_X7_cellSign]
  exact fig_Adv h
theorem car_R (M : Mo) : mR (h_X7_carSign M).2 = mR M := by
  rw [h_X7_carSign]
  exact fig_R ..
theorem cel_R (M : Mo) (ah : Int32) : mR (h_X7_cellSign M ah).2 = mR M := by
  rw [h_X7_cellSign]
  exact fig_R ..
theorem cel_n {M : Mo} {ah : Int32} (h : ¬ (h_X7_cellSign M ah).1 = -1) : ∃ j, j < 80 ∧ (h_X7_cellSign M ah).1 = nI j := by
  rw [h_X7_cellSign] at h ⊢
  obtain ⟨-, j, hj, e⟩ := fig_n (b := 79) (by decide) (by decide) h
  exact ⟨j, by omega, e⟩
theorem fig_len {M M' : Mo} (h : ¬ (h_X7_figures M' (h_X7_figures M 0 1 2 8).1 2 1 99).1 = -1) : ∃ j, 2 ≤ j ∧ j ≤ 8 ∧ (h_X7_figures M 0 1 2 8).1 = nI j := by
  have q := (fig_n (b := 99) (by decide) (by decide) h).1
  have q1 := (fig_in M 0 1 2 8).resolve_left q
  obtain ⟨j, hj, e⟩ := rng_n (b := 8) (by decide) (by decide) q1.2.1 q1.2.2
  have q2 := q1.2.1
  rw [e, Int32.le_iff_toInt_le, nI_toInt (by omega), show (2 : Int32).toInt = 2 by decide] at q2
  exact ⟨j, by omega, hj, e⟩
theorem fig_len8 {M M' : Mo} (h : ¬ (h_X7_figures M' (h_X7_figures M 0 1 2 8).1 2 1 99).1 = -1) : ∃ j, j ≤ 8 ∧ (h_X7_figures M 0 1 2 8).1 = nI j := by
  obtain ⟨j, -, a, b⟩ := fig_len h
  exact ⟨j, a, b⟩
theorem car_40x {g : Rw} {c : Int32} (h : ¬ f_X7_isCar g c = 0) (hR : RI g) : ∃ j, j < 40 ∧ c = nI j := car_40 hR.1 h
