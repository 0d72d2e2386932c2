theorem up1 {M : Mo} (h : TI M) (hz : sp M < zz M) : oS M (mS M + 1) = oS M (nI (sp M + 1)) ∧ TI (oS M (nI (sp M + 1))) ∧ sp (oS M (nI (sp M + 1))) = sp M + 1 := by
  have e : mS M + 1 = nI (sp M + 1) := by rw [h.2.2.1, nI_1]
  obtain ⟨a, b⟩ := h.oS2 (e := sp M + 1) (by omega)
  exact ⟨by rw [e], a, b⟩
theorem cmdT_p {T : Tt} {S : St} {M : Mo} (ht : TR T M) (h : TI M) (hz : sp M < zz M) (hr : RS S (mR M)) (hL : mT M (sp M) = 112) : CmdT T S M (h_X7_readCommand M) := by
  obtain ⟨u1, u2, u3⟩ := up1 h hz
  have eL : f_X5_letterAt T (nI (sp M)) = 112 := (let_in ht hz).trans hL
  have hL' : mT M (mS M).toNatClampNeg = 112 := hL
  have eE : f_X5_errorInCommand T (nI (sp M)) = f_X5_errorInNumber T (nI (sp M + 1)) 2 1 60 := by
    rw [f_X5_errorInCommand, eL, if_neg (by decide), if_neg (by decide), if_neg (by decide), if_neg (by decide), if_pos rfl, nI_1]
  have eK : f_X5_commandSize T (nI (sp M)) = nI 3 := by
    rw [f_X5_commandSize, eL, if_neg (by decide), if_neg (by decide), if_neg (by decide), if_neg (by decide)]
    decide
  have eD : h_X5_doCommand T S (nI (sp M)) = ((h_X4_passMinutes S (f_X5_twoDigits T (nI (sp M + 1)))).1, (h_X4_passMinutes S (f_X5_twoDigits T (nI (sp M + 1)))).2) := by
    rw [h_X5_doCommand, eL, if_neg (by decide), if_neg (by decide), if_neg (by decide), if_neg (by decide), if_pos rfl, nI_1]
  have eR : h_X7_readCommand M = (if ((h_X7_figures (oS M (nI (sp M + 1))) 0 2 1 60).1) = (-1) then (0, (h_X7_figures (oS M (nI (sp M + 1))) 0 2 1 60).2) else
      if ((h_X7_minutesOn (mR ((h_X7_figures (oS M (nI (sp M + 1))) 0 2 1 60).2)) ((h_X7_figures (oS M (nI (sp M + 1))) 0 2 1 60).1)).1) < 0 then (1, (h_X7_done (oR ((h_X7_figures (oS M (nI (sp M + 1))) 0 2 1 60).2) ((h_X7_minutesOn (mR ((h_X7_figures (oS M (nI (sp M + 1))) 0 2 1 60).2)) ((h_X7_figures (oS M (nI (sp M + 1))) 0 2 1 60).1)).2)) 0).2) else
      (1, (h_X7_done (oR ((h_X7_figures (oS M (nI (sp M + 1))) 0 2 1 60).2) ((h_X7_minutesOn (mR ((h_X7_figures (oS M (nI (sp M + 1))) 0 2 1 60).2)) ((h_X7_figures (oS M (nI (sp M + 1))) 0 2 1 60).1)).2)) 1).2)) := by
    rw [h_X7_readCommand, hL', if_neg (by decide), if_neg (by decide), if_neg (by decide), if_neg (by decide), if_pos rfl, u1]
  have ht1 : TR T (oS M (nI (sp M + 1))) := ht
  have nb := fig_in (oS M (nI (sp M + 1))) 0 2 1 60
  rcases num2 ht1 u2 (ah := 0) (lo := 1) (hi := 60) (by decide) (by decide) with ⟨a, b, c, d⟩ | ⟨e, he, a, b⟩
  · rw [u3] at a b c d
    rw [b] at eR
    rw [if_neg (show ¬ (f_X5_twoDigits T (nI (sp M + 1)), oS (oS M (nI (sp M + 1))) (nI (sp M + 1 + 2))).1 = -1 from d)] at eR
    rw [b] at nb
    have hv : ¬ f_X6_isMinutes (f_X5_twoDigits T (nI (sp M + 1))) = 0 := by
      obtain ⟨-, n1, n2⟩ := nb.resolve_left d
      rw [f_X6_isMinutes, if_neg (Int32.not_lt.mpr n1), if_neg (Int32.not_lt.mpr n2)]
      decide
    have mr : mR (oS (oS M (nI (sp M + 1))) (nI (sp M + 1 + 2))) = mR M := rfl
    refine cmdT_act (k := 3) (P := False) (B := h_X7_minutesOn (mR M) (f_X5_twoDigits T (nI (sp M + 1)))) (M1 := oS M (nI (sp M + 3))) rfl c (by omega) (eE.trans a) eK eD hr (fun z => z.elim) (fun _ => min_yes hr hv) ?_
    rw [if_neg not_false, eR]
    have e9 : oS (oS M (nI (sp M + 1))) (nI (sp M + 1 + 2)) = oS M (nI (sp M + 3)) := rfl
    dsimp only
    rw [e9, show mR (oS M (nI (sp M + 3))) = mR M from rfl]
  · rw [u3] at a
    rw [b] at eR
    rw [if_pos (show ((-1 : Int32), oS (oS M (nI (sp M + 1))) (nI e)).1 = -1 from rfl)] at eR
    have e9 : oS (oS M (nI (sp M + 1))) (nI e) = oS M (nI e) := rfl
    dsimp only at eR
    rw [e9] at eR
    have hez : e ≤ zz M := he
    rw [eR]
    exact cmdT_bad hez (eE.trans a) rfl
theorem cmdT_r {T : Tt} {S : St} {M : Mo} (ht : TR T M) (h : TI M) (hz : sp M < zz M) (hr : RS S (mR M)) (hL : mT M (sp M) = 114) : CmdT T S M (h_X7_readCommand M) := by
  obtain ⟨u1, u2, u3⟩ := up1 h hz
  have eL : f_X5_letterAt T (nI (sp M)) = 114 := (let_in ht hz).trans hL
  have hL' : mT M (mS M).toNatClampNeg = 114 := hL
  have eE : f_X5_errorInCommand T (nI (sp M)) = f_X5_errorInNumber T (nI (sp M + 1)) 1 0 2 := by
    rw [f_X5_errorInCommand, eL, if_neg (by decide), if_neg (by decide), if_neg (by decide), if_neg (by decide), if_neg (by decide), if_pos rfl, nI_1]
  have eK : f_X5_commandSize T (nI (sp M)) = nI 2 := by
    rw [f_X5_commandSize, eL, if_neg (by decide), if_neg (by decide), if_neg (by decide), if_pos rfl]
    decide
  have eD : h_X5_doCommand T S (nI (sp M)) = ((h_X4_changeSetting S 0 (f_X5_digit T (nI (sp M + 1)))).1, (h_X4_changeSetting S 0 (f_X5_digit T (nI (sp M + 1)))).2) := by
    rw [h_X5_doCommand, eL, if_neg (by decide), if_neg (by decide), if_neg (by decide), if_neg (by decide), if_neg (by decide), if_pos rfl, nI_1]
  have eR : h_X7_readCommand M = (if ((h_X7_figures (oS M (nI (sp M + 1))) 0 1 0 2).1) = (-1) then (0, (h_X7_figures (oS M (nI (sp M + 1))) 0 1 0 2).2) else if ((h_X7_change (mR ((h_X7_figures (oS M (nI (sp M + 1))) 0 1 0 2).2)) 0 ((h_X7_figures (oS M (nI (sp M + 1))) 0 1 0 2).1)).1) < 0 then (1, (h_X7_done (oR ((h_X7_figures (oS M (nI (sp M + 1))) 0 1 0 2).2) ((h_X7_change (mR ((h_X7_figures (oS M (nI (sp M + 1))) 0 1 0 2).2)) 0 ((h_X7_figures (oS M (nI (sp M + 1))) 0 1 0 2).1)).2)) 0).2) else (1, (h_X7_done (oR ((h_X7_figures (oS M (nI (sp M + 1))) 0 1 0 2).2) ((h_X7_change (mR ((h_X7_figures (oS M (nI (sp M + 1))) 0 1 0 2).2)) 0 ((h_X7_figures (oS M (nI (sp M + 1))) 0 1 0 2).1)).2)) 1).2)) := by
    rw [h_X7_readCommand, hL', if_neg (by decide), if_neg (by decide), if_neg (by decide), if_neg (by decide), if_neg (by decide), if_pos rfl, u1]
  have ht1 : TR T (oS M (nI (sp M + 1))) := ht
  have nb := fig_in (oS M (nI (sp M + 1))) 0 1 0 2
  rcases num1 ht1 u2 (ah := 0) (lo := 0) (hi := 2) (by decide) (by decide) with ⟨a, b, c, d⟩ | ⟨e, he, a, b⟩
  · rw [u3] at a b c d
    rw [b] at eR
    rw [if_neg (show ¬ (f_X5_digit T (nI (sp M + 1)), oS (oS M (nI (sp M + 1))) (nI (sp M + 1 + 1))).1 = -1 from d)] at eR
    rw [b] at nb
    obtain ⟨-, n1, n2⟩ := nb.resolve_left d
    dsimp only at n1 n2
    have hv : ¬ f_X7_isSetting (nI 0) (f_X5_digit T (nI (sp M + 1))) = 0 := by
      rw [← setting_eq, f_X6_isSettingValue, if_pos (show nI 0 = 0 by decide), if_neg (Int32.not_lt.mpr n1), if_neg (Int32.not_lt.mpr n2)]
      decide
    refine cmdT_act (k := 2) (P := False) (B := (h_X7_change (mR M) 0 (f_X5_digit T (nI (sp M + 1))))) (M1 := oS M (nI (sp M + 2))) rfl c (by omega) (eE.trans a) eK eD hr (fun z => z.elim) (fun _ => chg_yes hr (w := 0) (by omega) hv) ?_
    rw [if_neg not_false, eR]
    have e9 : oS (oS M (nI (sp M + 1))) (nI (sp M + 1 + 1)) = oS M (nI (sp M + 2)) := rfl
    dsimp only
    rw [e9, show mR (oS M (nI (sp M + 2))) = mR M from rfl]
  · rw [u3] at a
    rw [b] at eR
    rw [if_pos (show ((-1 : Int32), oS (oS M (nI (sp M + 1))) (nI e)).1 = -1 from rfl)] at eR
    have e9 : oS (oS M (nI (sp M + 1))) (nI e) = oS M (nI e) := rfl
    dsimp only at eR
    rw [e9] at eR
    have hez : e ≤ zz M := he
    rw [eR]
    exact cmdT_bad hez (eE.trans a) rfl
theorem cmdT_l {T : Tt} {S : St} {M : Mo} (ht : TR T M) (h : TI M) (hz : sp M < zz M) (hr : RS S (mR M)) (hL : mT M (sp M) = 108) : CmdT T S M (h_X7_readCommand M) := by
  obtain ⟨u1, u2, u3⟩ := up1 h hz
  have eL : f_X5_letterAt T (nI (sp M)) = 108 := (let_in ht hz).trans hL
  have hL' : mT M (mS M).toNatClampNeg = 108 := hL
  have eE : f_X5_errorInCommand T (nI (sp M)) = f_X5_errorInNumber T (nI (sp M + 1)) 2 0 39 := by
    rw [f_X5_errorInCommand, eL, if_neg (by decide), if_neg (by decide), if_pos rfl, nI_1, f_X5_errorInCar]
  have eK : f_X5_commandSize T (nI (sp M)) = nI 3 := by
    rw [f_X5_commandSize, eL, if_neg (by decide), if_neg (by decide), if_neg (by decide), if_neg (by decide)]
    decide
  have eD : h_X5_doCommand T S (nI (sp M)) = ((h_X4_depart S (f_X5_twoDigits T (nI (sp M + 1))) 2).1, (h_X4_depart S (f_X5_twoDigits T (nI (sp M + 1))) 2).2) := by
    rw [h_X5_doCommand, eL, if_neg (by decide), if_neg (by decide), if_pos rfl, nI_1]
  have eR : h_X7_readCommand M = (if ((h_X7_figures (oS M (nI (sp M + 1))) 0 2 0 39).1) = (-1) then (0, (h_X7_figures (oS M (nI (sp M + 1))) 0 2 0 39).2) else if f_X7_isParked (mR ((h_X7_figures (oS M (nI (sp M + 1))) 0 2 0 39).2)) ((h_X7_figures (oS M (nI (sp M + 1))) 0 2 0 39).1) = 0 then (1, (h_X7_done ((h_X7_figures (oS M (nI (sp M + 1))) 0 2 0 39).2) 0).2) else if ((h_X7_goes (mR ((h_X7_figures (oS M (nI (sp M + 1))) 0 2 0 39).2)) (((h_X7_figures (oS M (nI (sp M + 1))) 0 2 0 39).1)).toNatClampNeg 2).1) < 0 then (1, (h_X7_done (oR ((h_X7_figures (oS M (nI (sp M + 1))) 0 2 0 39).2) ((h_X7_goes (mR ((h_X7_figures (oS M (nI (sp M + 1))) 0 2 0 39).2)) (((h_X7_figures (oS M (nI (sp M + 1))) 0 2 0 39).1)).toNatClampNeg 2).2)) 0).2) else (1, (h_X7_done (oR ((h_X7_figures (oS M (nI (sp M + 1))) 0 2 0 39).2) ((h_X7_goes (mR ((h_X7_figures (oS M (nI (sp M + 1))) 0 2 0 39).2)) (((h_X7_figures (oS M (nI (sp M + 1))) 0 2 0 39).1)).toNatClampNeg 2).2)) 1).2)) := by
    rw [h_X7_readCommand, hL', if_neg (by decide), if_neg (by decide), if_pos rfl, u1, h_X7_carSign]
  have ht1 : TR T (oS M (nI (sp M + 1))) := ht
  have nb := fig_in (oS M (nI (sp M + 1))) 0 2 0 39
  rcases num2 ht1 u2 (ah := 0) (lo := 0) (hi := 39) (by decide) (by decide) with ⟨a, b, c, d⟩ | ⟨e, he, a, b⟩
  · rw [u3] at a b c d
    rw [b] at eR
    rw [if_neg (show ¬ (f_X5_twoDigits T (nI (sp M + 1)), oS (oS M (nI (sp M + 1))) (nI (sp M + 1 + 2))).1 = -1 from d)] at eR
    rw [b] at nb
    obtain ⟨-, n1, n2⟩ := nb.resolve_left d
    dsimp only at n1 n2

    refine cmdT_act (k := 3) (P := f_X7_isParked (mR M) (f_X5_twoDigits T (nI (sp M + 1))) = 0) (B := (h_X7_goes (mR M) ((f_X5_twoDigits T (nI (sp M + 1)))).toNatClampNeg 2)) (M1 := oS M (nI (sp M + 3))) rfl c (by omega) (eE.trans a) eK eD hr (fun z => dep_no hr 2 z) (fun z => dep_yes hr (sta := 2) z (by decide) (by decide)) ?_
    rw [eR]
    have e9 : oS (oS M (nI (sp M + 1))) (nI (sp M + 1 + 2)) = oS M (nI (sp M + 3)) := rfl
    dsimp only
    rw [e9, show mR (oS M (nI (sp M + 3))) = mR M from rfl]
  · rw [u3] at a
    rw [b] at eR
    rw [if_pos (show ((-1 : Int32), oS (oS M (nI (sp M + 1))) (nI e)).1 = -1 from rfl)] at eR
    have e9 : oS (oS M (nI (sp M + 1))) (nI e) = oS M (nI e) := rfl
    dsimp only at eR
    rw [e9] at eR
    have hez : e ≤ zz M := he
    rw [eR]
    exact cmdT_bad hez (eE.trans a) rfl
theorem cmdT_t {T : Tt} {S : St} {M : Mo} (ht : TR T M) (h : TI M) (hz : sp M < zz M) (hr : RS S (mR M)) (hL : mT M (sp M) = 116) : CmdT T S M (h_X7_readCommand M) := by
  obtain ⟨u1, u2, u3⟩ := up1 h hz
  have eL : f_X5_letterAt T (nI (sp M)) = 116 := (let_in ht hz).trans hL
  have hL' : mT M (mS M).toNatClampNeg = 116 := hL
  have eE : f_X5_errorInCommand T (nI (sp M)) = f_X5_errorInNumber T (nI (sp M + 1)) 2 0 39 := by
    rw [f_X5_errorInCommand, eL, if_neg (by decide), if_neg (by decide), if_neg (by decide), if_neg (by decide), if_neg (by decide), if_neg (by decide), if_pos rfl, nI_1, f_X5_errorInCar]
  have eK : f_X5_commandSize T (nI (sp M)) = nI 3 := by
    rw [f_X5_commandSize, eL, if_neg (by decide), if_neg (by decide), if_neg (by decide), if_neg (by decide)]
    decide
  have eD : h_X5_doCommand T S (nI (sp M)) = ((h_X4_depart S (f_X5_twoDigits T (nI (sp M + 1))) 4).1, (h_X4_depart S (f_X5_twoDigits T (nI (sp M + 1))) 4).2) := by
    rw [h_X5_doCommand, eL, if_neg (by decide), if_neg (by decide), if_neg (by decide), if_neg (by decide), if_neg (by decide), if_neg (by decide), if_pos rfl, nI_1]
  have eR : h_X7_readCommand M = (if ((h_X7_figures (oS M (nI (sp M + 1))) 0 2 0 39).1) = (-1) then (0, (h_X7_figures (oS M (nI (sp M + 1))) 0 2 0 39).2) else if f_X7_isParked (mR ((h_X7_figures (oS M (nI (sp M + 1))) 0 2 0 39).2)) ((h_X7_figures (oS M (nI (sp M + 1))) 0 2 0 39).1) = 0 then (1, (h_X7_done ((h_X7_figures (oS M (nI (sp M + 1))) 0 2 0 39).2) 0).2) else if ((h_X7_goes (mR ((h_X7_figures (oS M (nI (sp M + 1))) 0 2 0 39).2)) (((h_X7_figures (oS M (nI (sp M + 1))) 0 2 0 39).1)).toNatClampNeg 4).1) < 0 then (1, (h_X7_done (oR ((h_X7_figures (oS M (nI (sp M + 1))) 0 2 0 39).2) ((h_X7_goes (mR ((h_X7_figures (oS M (nI (sp M + 1))) 0 2 0 39).2)) (((h_X7_figures (oS M (nI (sp M + 1))) 0 2 0 39).1)).toNatClampNeg 4).2)) 0).2) else (1, (h_X7_done (oR ((h_X7_figures (oS M (nI (sp M + 1))) 0 2 0 39).2) ((h_X7_goes (mR ((h_X7_figures (oS M (nI (sp M + 1))) 0 2 0 39).2)) (((h_X7_figures (oS M (nI (sp M + 1))) 0 2 0 39).1)).toNatClampNeg 4).2)) 1).2)) := by
    rw [h_X7_readCommand, hL', if_neg (by decide), if_neg (by decide), if_neg (by decide), if_neg (by decide), if_neg (by decide), if_neg (by decide), if_pos rfl, u1, h_X7_carSign]
  have ht1 : TR T (oS M (nI (sp M + 1))) := ht
  have nb := fig_in (oS M (nI (sp M + 1))) 0 2 0 39
  rcases num2 ht1 u2 (ah := 0) (lo := 0) (hi := 39) (by decide) (by decide) with ⟨a, b, c, d⟩ | ⟨e, he, a, b⟩
  · rw [u3] at a b c d
    rw [b] at eR
    rw [if_neg (show ¬ (f_X5_twoDigits T (nI (sp M + 1)), oS (oS M (nI (sp M + 1))) (nI (sp M + 1 + 2))).1 = -1 from d)] at eR
    rw [b] at nb
    obtain ⟨-, n1, n2⟩ := nb.resolve_left d
    dsimp only at n1 n2

    refine cmdT_act (k := 3) (P := f_X7_isParked (mR M) (f_X5_twoDigits T (nI (sp M + 1))) = 0) (B := (h_X7_goes (mR M) ((f_X5_twoDigits T (nI (sp M + 1)))).toNatClampNeg 4)) (M1 := oS M (nI (sp M + 3))) rfl c (by omega) (eE.trans a) eK eD hr (fun z => dep_no hr 4 z) (fun z => dep_yes hr (sta := 4) z (by decide) (by decide)) ?_
    rw [eR]
    have e9 : oS (oS M (nI (sp M + 1))) (nI (sp M + 1 + 2)) = oS M (nI (sp M + 3)) := rfl
    dsimp only
    rw [e9, show mR (oS M (nI (sp M + 3))) = mR M from rfl]
  · rw [u3] at a
    rw [b] at eR
    rw [if_pos (show ((-1 : Int32), oS (oS M (nI (sp M + 1))) (nI e)).1 = -1 from rfl)] at eR
    have e9 : oS (oS M (nI (sp M + 1))) (nI e) = oS M (nI e) := rfl
    dsimp only at eR
    rw [e9] at eR
    have hez : e ≤ zz M := he
    rw [eR]
    exact cmdT_bad hez (eE.trans a) rfl
