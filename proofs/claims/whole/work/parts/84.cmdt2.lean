theorem cmdT_x {T : Tt} {S : St} {M : Mo} (ht : TR T M) (h : TI M) (hz : sp M < zz M) (h1 : ¬ mT M (sp M) = 99) (h2 : ¬ mT M (sp M) = 104) (h3 : ¬ mT M (sp M) = 108) (h4 : ¬ mT M (sp M) = 109) (h5 : ¬ mT M (sp M) = 112) (h6 : ¬ mT M (sp M) = 114) (h7 : ¬ mT M (sp M) = 116) : CmdT T S M (h_X7_readCommand M) := by
  obtain ⟨u1, u2, u3⟩ := up1 h hz
  have eL : f_X5_letterAt T (nI (sp M)) = mT M (sp M) := let_in ht hz
  have e : (mS M).toNatClampNeg = sp M := rfl
  have eE : f_X5_errorInCommand T (nI (sp M)) = nI (sp M) := by
    rw [f_X5_errorInCommand, eL, if_neg h1, if_neg h2, if_neg h3, if_neg h4, if_neg h5, if_neg h6, if_neg h7]
  refine cmdT_bad h.2.2.2 eE ?_
  rw [h_X7_readCommand, e, if_neg h1, if_neg h2, if_neg h3, if_neg h4, if_neg h5, if_neg h6, if_neg h7, u1]
  have e9 : mS (oS M (nI (sp M + 1))) - 1 = nI (sp M) := by
    show nI (sp M + 1) - 1 = nI (sp M)
    exact pk_sub (b := 1) (by omega)
  rw [e9]
  rfl
theorem cmdT_c {T : Tt} {S : St} {M : Mo} (ht : TR T M) (h : TI M) (hz : sp M < zz M) (hr : RS S (mR M)) (hL : mT M (sp M) = 99) : CmdT T S M (h_X7_readCommand M) := by
  obtain ⟨u1, u2, u3⟩ := up1 h hz
  have eL : f_X5_letterAt T (nI (sp M)) = 99 := (let_in ht hz).trans hL
  have hL' : mT M (mS M).toNatClampNeg = 99 := hL
  have n2 : nI (sp M) + 2 = nI (sp M + 2) := nI_add _ 2
  have eE : f_X5_errorInCommand T (nI (sp M)) = f_X5_firstOf (f_X5_errorInNumber T (nI (sp M + 1)) 1 2 8) (f_X5_errorInNumber T (nI (sp M + 2)) 2 1 99) := by
    rw [f_X5_errorInCommand, eL, if_pos rfl, nI_1, n2]
  have eK : f_X5_commandSize T (nI (sp M)) = nI 4 := by
    rw [f_X5_commandSize, eL, if_pos rfl]
    decide
  have eD : h_X5_doCommand T S (nI (sp M)) = ((h_X4_arrive S (f_X5_digit T (nI (sp M + 1))) (f_X5_twoDigits T (nI (sp M + 2)))).1, (h_X4_arrive S (f_X5_digit T (nI (sp M + 1))) (f_X5_twoDigits T (nI (sp M + 2)))).2) := by
    rw [h_X5_doCommand, eL, if_pos rfl, nI_1, n2]
  have eR : ∀ F1 F2, h_X7_figures (oS M (nI (sp M + 1))) 0 1 2 8 = F1 → h_X7_figures F1.2 F1.1 2 1 99 = F2 → h_X7_readCommand M = (if F2.1 = (-1) then (0, F2.2) else if (40 : Int32) ≤ mR F2.2 0 then (1, (h_X7_done F2.2 0).2) else if (h_X7_comeOn (mR F2.2) F1.1 F2.1).1 < 0 then (1, (h_X7_done (oR F2.2 (h_X7_comeOn (mR F2.2) F1.1 F2.1).2) 0).2) else (1, (h_X7_done (oR F2.2 (h_X7_comeOn (mR F2.2) F1.1 F2.1).2) 1).2)) := by
    intro F1 F2 e1 e2
    rw [h_X7_readCommand, hL', if_pos rfl, u1, e1, e2]
  have ht1 : TR T (oS M (nI (sp M + 1))) := ht
  have nb := fig_in (oS M (nI (sp M + 1))) 0 1 2 8
  rcases num1 ht1 u2 (ah := 0) (lo := 2) (hi := 8) (by decide) (by decide) with ⟨a, b, c, d⟩ | ⟨e, he, a, b⟩
  · rw [u3] at a b c d
    rw [b] at nb
    obtain ⟨-, m1, m2⟩ := nb.resolve_left d
    dsimp only at m1 m2
    have e8 : oS (oS M (nI (sp M + 1))) (nI (sp M + 1 + 1)) = oS M (nI (sp M + 2)) := rfl
    rw [e8] at b
    have c' : sp M + 2 ≤ zz M := c
    obtain ⟨v2, v3⟩ := h.oS2 (e := sp M + 2) c'
    have ht2 : TR T (oS M (nI (sp M + 2))) := ht
    have nb2 := fig_in (oS M (nI (sp M + 2))) (f_X5_digit T (nI (sp M + 1))) 2 1 99
    rcases num2 ht2 v2 (ah := f_X5_digit T (nI (sp M + 1))) (lo := 1) (hi := 99) d (by decide) with ⟨a2, b2, c2, d2⟩ | ⟨e, he, a2, b2⟩
    · rw [v3] at a2 b2 c2 d2
      rw [b2] at nb2
      obtain ⟨-, k1, k2⟩ := nb2.resolve_left d2
      dsimp only at k1 k2
      have e9 : oS (oS M (nI (sp M + 2))) (nI (sp M + 2 + 2)) = oS M (nI (sp M + 4)) := rfl
      rw [e9] at b2
      have q := eR _ _ b b2
      dsimp only at q
      rw [if_neg d2, show mR (oS M (nI (sp M + 4))) = mR M from rfl] at q
      have hl : ¬ f_X7_isLength (f_X5_digit T (nI (sp M + 1))) = 0 := by
        rw [← length_eq, f_X6_isLength, if_neg (Int32.not_lt.mpr m1), if_neg (Int32.not_lt.mpr m2)]
        decide
      have hs : ¬ f_X6_isStay (f_X5_twoDigits T (nI (sp M + 2))) = 0 := by
        rw [f_X6_isStay, if_neg (Int32.not_lt.mpr k1), if_neg (Int32.not_lt.mpr k2)]
        decide
      refine cmdT_act (k := 4) (P := (40 : Int32) ≤ mR M 0) (B := h_X7_comeOn (mR M) (f_X5_digit T (nI (sp M + 1))) (f_X5_twoDigits T (nI (sp M + 2)))) (M1 := oS M (nI (sp M + 4))) rfl c2 (by omega) ?_ eK eD hr (fun z => come_no hr z) (fun z => come_yes hr z hl hs) q
      rw [eE, a, firstOf_r, a2]
    · rw [v3] at a2
      have e9 : oS (oS M (nI (sp M + 2))) (nI e) = oS M (nI e) := rfl
      rw [e9] at b2
      have q := eR _ _ b b2
      dsimp only at q
      rw [if_pos rfl] at q
      rw [q]
      have hez : e ≤ zz M := he
      exact cmdT_bad hez (by rw [eE, a, firstOf_r, a2]) rfl
  · rw [u3] at a
    have e9 : oS (oS M (nI (sp M + 1))) (nI e) = oS M (nI e) := rfl
    rw [e9] at b
    have q := eR _ _ b (fig_m1 (oS M (nI e)) 2 1 99)
    dsimp only at q
    rw [if_pos rfl] at q
    rw [q]
    have hez : e ≤ zz M := he
    have h120 := h.2.1
    exact cmdT_bad hez (by rw [eE, a, firstOf_l (by omega)]) rfl
