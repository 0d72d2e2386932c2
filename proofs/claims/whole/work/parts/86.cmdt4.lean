def YH (C : Int32 × Mo) (on : Int32) : Int32 × Mo :=
  if (f_X7_canHydrant (mR (oS C.2 (mS C.2 + 1))) C.1 on) = 0 then (1, (h_X7_done (oS C.2 (mS C.2 + 1)) 0).2) else
  if (h_X7_hydrantOn (mR (oS C.2 (mS C.2 + 1))) C.1.toNatClampNeg on).1 < 0 then (1, (h_X7_done (oR (oS C.2 (mS C.2 + 1)) (h_X7_hydrantOn (mR (oS C.2 (mS C.2 + 1))) C.1.toNatClampNeg on).2) 0).2) else
  (1, (h_X7_done (oR (oS C.2 (mS C.2 + 1)) (h_X7_hydrantOn (mR (oS C.2 (mS C.2 + 1))) C.1.toNatClampNeg on).2) 1).2)
theorem cmdT_h {T : Tt} {S : St} {M : Mo} (ht : TR T M) (h : TI M) (hz : sp M < zz M) (hr : RS S (mR M)) (hL : mT M (sp M) = 104) : CmdT T S M (h_X7_readCommand M) := by
  obtain ⟨u1, u2, u3⟩ := up1 h hz
  have h120 := h.2.1
  have eL : f_X5_letterAt T (nI (sp M)) = 104 := (let_in ht hz).trans hL
  have hL' : mT M (mS M).toNatClampNeg = 104 := hL
  have n3 : nI (sp M) + 3 = nI (sp M + 3) := nI_add _ 3
  have eE : f_X5_errorInCommand T (nI (sp M)) = f_X5_firstOf (f_X5_errorInNumber T (nI (sp M + 1)) 2 0 79) (f_X5_errorInSign T (nI (sp M + 3))) := by
    rw [f_X5_errorInCommand, eL, if_neg (by decide), if_pos rfl, nI_1, n3, f_X5_errorInCell]
  have eK : f_X5_commandSize T (nI (sp M)) = nI 4 := by
    rw [f_X5_commandSize, eL, if_neg (by decide), if_pos rfl]
    decide
  have eR : ∀ C, h_X7_figures (oS M (nI (sp M + 1))) 0 2 0 79 = C → h_X7_readCommand M = (if C.1 = (-1) then (0, C.2) else if mS C.2 = mZ C.2 then (0, C.2) else if mT C.2 (mS C.2).toNatClampNeg = 43 then YH C 1 else if mT C.2 (mS C.2).toNatClampNeg = 45 then YH C 0 else (0, C.2)) := by
    intro C e1
    have e4 : h_X7_cellSign (oS M (nI (sp M + 1))) 0 = C := by rw [h_X7_cellSign, e1]
    rw [h_X7_readCommand, hL', if_neg (by decide), if_pos rfl, u1, h_X7_readHydrant, e4]
    unfold YH
    simp only [dn_0, dn_1]
  have ht1 : TR T (oS M (nI (sp M + 1))) := ht
  have nb := fig_in (oS M (nI (sp M + 1))) 0 2 0 79
  rcases num2 ht1 u2 (ah := 0) (lo := 0) (hi := 79) (by decide) (by decide) with ⟨a, b, c, d⟩ | ⟨e, he, a, b⟩
  · rw [u3] at a b c d
    have e8 : oS (oS M (nI (sp M + 1))) (nI (sp M + 1 + 2)) = oS M (nI (sp M + 3)) := rfl
    rw [e8] at b
    have c' : sp M + 3 ≤ zz M := c
    have q := eR _ b
    have mS3 : mS (oS M (nI (sp M + 3))) = nI (sp M + 3) := rfl
    have eZ : mZ (oS M (nI (sp M + 3))) = nI (zz M) := h.1
    have mT3 : mT (oS M (nI (sp M + 3))) = mT M := rfl
    dsimp only at q
    rw [if_neg d, mS3, eZ, mT3, nI_clamp (by omega)] at q
    have bad : f_X5_errorInSign T (nI (sp M + 3)) = nI (sp M + 3) → h_X7_readCommand M = (0, oS M (nI (sp M + 3))) → CmdT T S M (h_X7_readCommand M) := fun z1 z2 => by
      rw [z2]
      exact cmdT_bad c' (by rw [eE, a, firstOf_r, z1]) rfl
    by_cases c1 : nI (sp M + 3) = nI (zz M)
    · rw [if_pos c1] at q
      have c1' : zz M ≤ sp M + 3 := by
        have := nI_inj (by omega) (by omega) c1
        omega
      refine bad ?_ q
      rw [f_X5_errorInSign, let_out ht c1' (by omega), if_neg (by decide), if_neg (by decide)]
    · rw [if_neg c1] at q
      have c1' : sp M + 3 < zz M := by
        rcases Nat.lt_or_ge (sp M + 3) (zz M) with z | z
        · exact z
        · exact absurd (by rw [show sp M + 3 = zz M by omega]) c1
      have eS : f_X5_letterAt T (nI (sp M + 3)) = mT M (sp M + 3) := let_in ht c1'
      have go : ∀ on : Int32, h_X7_readCommand M = YH (f_X5_twoDigits T (nI (sp M + 1)), oS M (nI (sp M + 3))) on → f_X5_errorInSign T (nI (sp M + 3)) = -1 → h_X5_doCommand T S (nI (sp M)) = ((h_X4_putHydrant S (f_X5_twoDigits T (nI (sp M + 1))) on).1, (h_X4_putHydrant S (f_X5_twoDigits T (nI (sp M + 1))) on).2) → CmdT T S M (h_X7_readCommand M) := fun on z1 z2 z3 => by
        refine cmdT_act (k := 4) (P := f_X7_canHydrant (mR M) (f_X5_twoDigits T (nI (sp M + 1))) on = 0) (B := h_X7_hydrantOn (mR M) (f_X5_twoDigits T (nI (sp M + 1))).toNatClampNeg on) (M1 := oS M (nI (sp M + 4))) rfl (by omega) (by omega) (by rw [eE, a, firstOf_r, z2]) eK z3 hr (fun z => hyd_no hr z) (fun z => hyd_yes hr z) ?_
        rw [z1, YH]
        dsimp only
        have e9 : oS (oS M (nI (sp M + 3))) (mS (oS M (nI (sp M + 3))) + 1) = oS M (nI (sp M + 4)) := by
          rw [mS3, nI_1]
          rfl
        rw [e9, show mR (oS M (nI (sp M + 4))) = mR M from rfl]
      by_cases c2 : mT M (sp M + 3) = 43
      · rw [if_pos c2] at q
        refine go 1 q ?_ ?_
        · rw [f_X5_errorInSign, eS, if_pos c2]
        · rw [h_X5_doCommand, eL, if_neg (by decide), if_pos rfl, n3, eS, if_pos c2, nI_1]
      · rw [if_neg c2] at q
        by_cases c3 : mT M (sp M + 3) = 45
        · rw [if_pos c3] at q
          refine go 0 q ?_ ?_
          · rw [f_X5_errorInSign, eS, if_neg c2, if_pos c3]
          · rw [h_X5_doCommand, eL, if_neg (by decide), if_pos rfl, n3, eS, if_neg c2, nI_1]
        · rw [if_neg c3] at q
          refine bad ?_ q
          rw [f_X5_errorInSign, eS, if_neg c2, if_neg c3]
  · rw [u3] at a
    have e9 : oS (oS M (nI (sp M + 1))) (nI e) = oS M (nI e) := rfl
    rw [e9] at b
    have q := eR _ b
    dsimp only at q
    rw [if_pos rfl] at q
    rw [q]
    have hez : e ≤ zz M := he
    exact cmdT_bad hez (by rw [eE, a, firstOf_l (by omega)]) rfl
theorem cmdT {T : Tt} {S : St} {M : Mo} (ht : TR T M) (h : TI M) (hz : sp M < zz M) (hr : RS S (mR M)) : CmdT T S M (h_X7_readCommand M) := by
  by_cases h1 : mT M (sp M) = 99
  · exact cmdT_c ht h hz hr h1
  · by_cases h2 : mT M (sp M) = 104
    · exact cmdT_h ht h hz hr h2
    · by_cases h3 : mT M (sp M) = 108
      · exact cmdT_l ht h hz hr h3
      · by_cases h4 : mT M (sp M) = 109
        · exact cmdT_m ht h hz hr h4
        · by_cases h5 : mT M (sp M) = 112
          · exact cmdT_p ht h hz hr h5
          · by_cases h6 : mT M (sp M) = 114
            · exact cmdT_r ht h hz hr h6
            · by_cases h7 : mT M (sp M) = 116
              · exact cmdT_t ht h hz hr h7
              · exact cmdT_x ht h hz h1 h2 h3 h4 h5 h6 h7
