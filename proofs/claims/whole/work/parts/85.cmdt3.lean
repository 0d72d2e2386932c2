theorem rng_cell {v : Int32} (n1 : 0 ≤ v) (n2 : v ≤ 79) : ∃ j, j < 80 ∧ v = nI j := by
  obtain ⟨j, hj, rfl⟩ := nI_of (Int32.not_lt.mpr n1)
  have := (nI_leI (b := 79) hj (by omega)).mp n2
  exact ⟨j, by omega, rfl⟩
theorem cmdT_m {T : Tt} {S : St} {M : Mo} (ht : TR T M) (h : TI M) (hz : sp M < zz M) (hr : RS S (mR M)) (hL : mT M (sp M) = 109) : CmdT T S M (h_X7_readCommand M) := by
  obtain ⟨u1, u2, u3⟩ := up1 h hz
  have eL : f_X5_letterAt T (nI (sp M)) = 109 := (let_in ht hz).trans hL
  have hL' : mT M (mS M).toNatClampNeg = 109 := hL
  have n3 : nI (sp M) + 3 = nI (sp M + 3) := nI_add _ 3
  have eE : f_X5_errorInCommand T (nI (sp M)) = f_X5_firstOf (f_X5_errorInNumber T (nI (sp M + 1)) 2 0 39) (f_X5_errorInNumber T (nI (sp M + 3)) 2 0 79) := by
    rw [f_X5_errorInCommand, eL, if_neg (by decide), if_neg (by decide), if_neg (by decide), if_pos rfl, nI_1, n3, f_X5_errorInCar, f_X5_errorInCell]
  have eK : f_X5_commandSize T (nI (sp M)) = nI 5 := by
    rw [f_X5_commandSize, eL, if_neg (by decide), if_neg (by decide), if_pos rfl]
    decide
  have eD : h_X5_doCommand T S (nI (sp M)) = ((h_X4_shift S (f_X5_twoDigits T (nI (sp M + 1))) (f_X5_twoDigits T (nI (sp M + 3)))).1, (h_X4_shift S (f_X5_twoDigits T (nI (sp M + 1))) (f_X5_twoDigits T (nI (sp M + 3)))).2) := by
    rw [h_X5_doCommand, eL, if_neg (by decide), if_neg (by decide), if_neg (by decide), if_pos rfl, nI_1, n3]
  have eR : ∀ F1 F2, h_X7_figures (oS M (nI (sp M + 1))) 0 2 0 39 = F1 → h_X7_figures F1.2 F1.1 2 0 79 = F2 → h_X7_readCommand M = (if F2.1 = (-1) then (0, F2.2) else if f_X7_isCar (mR F2.2) F1.1 = 0 then (1, (h_X7_done F2.2 0).2) else if f_X7_canMove (mR F2.2) F1.1.toNatClampNeg F2.1.toNatClampNeg = 0 then (1, (h_X7_done F2.2 0).2) else if (h_X7_moveOn (mR F2.2) F1.1.toNatClampNeg F2.1.toNatClampNeg).1 < 0 then (1, (h_X7_done (oR F2.2 (h_X7_moveOn (mR F2.2) F1.1.toNatClampNeg F2.1.toNatClampNeg).2) 0).2) else (1, (h_X7_done (oR F2.2 (h_X7_moveOn (mR F2.2) F1.1.toNatClampNeg F2.1.toNatClampNeg).2) 1).2)) := by
    intro F1 F2 e1 e2
    have e3 : h_X7_carSign (oS M (nI (sp M + 1))) = F1 := by rw [h_X7_carSign, e1]
    have e4 : h_X7_cellSign F1.2 F1.1 = F2 := by rw [h_X7_cellSign, e2]
    rw [h_X7_readCommand, hL', if_neg (by decide), if_neg (by decide), if_neg (by decide), if_pos rfl, u1, e3, e4]
  have ht1 : TR T (oS M (nI (sp M + 1))) := ht
  have nb := fig_in (oS M (nI (sp M + 1))) 0 2 0 39
  rcases num2 ht1 u2 (ah := 0) (lo := 0) (hi := 39) (by decide) (by decide) with ⟨a, b, c, d⟩ | ⟨e, he, a, b⟩
  · rw [u3] at a b c d
    rw [b] at nb
    obtain ⟨-, m1, m2⟩ := nb.resolve_left d
    dsimp only at m1 m2
    have e8 : oS (oS M (nI (sp M + 1))) (nI (sp M + 1 + 2)) = oS M (nI (sp M + 3)) := rfl
    rw [e8] at b
    have c' : sp M + 3 ≤ zz M := c
    obtain ⟨v2, v3⟩ := h.oS2 (e := sp M + 3) c'
    have ht2 : TR T (oS M (nI (sp M + 3))) := ht
    have nb2 := fig_in (oS M (nI (sp M + 3))) (f_X5_twoDigits T (nI (sp M + 1))) 2 0 79
    rcases num2 ht2 v2 (ah := f_X5_twoDigits T (nI (sp M + 1))) (lo := 0) (hi := 79) d (by decide) with ⟨a2, b2, c2, d2⟩ | ⟨e, he, a2, b2⟩
    · rw [v3] at a2 b2 c2 d2
      rw [b2] at nb2
      obtain ⟨-, k1, k2⟩ := nb2.resolve_left d2
      dsimp only at k1 k2
      have e9 : oS (oS M (nI (sp M + 3))) (nI (sp M + 3 + 2)) = oS M (nI (sp M + 5)) := rfl
      rw [e9] at b2
      have q := eR _ _ b b2
      dsimp only at q
      rw [if_neg d2, show mR (oS M (nI (sp M + 5))) = mR M from rfl] at q
      have eE' : f_X5_errorInCommand T (nI (sp M)) = -1 := by rw [eE, a, firstOf_r, a2]
      obtain ⟨y, hy, ey⟩ := rng_cell k1 k2
      obtain ⟨x, hx, ex⟩ := rng_cell m1 (Int32.le_trans m2 (by decide))
      rw [ex, ey, nI_clamp (show x < 2 ^ 31 by omega), nI_clamp (show y < 2 ^ 31 by omega)] at q
      rw [ex, ey] at eD
      by_cases cc : f_X7_isCar (mR M) (nI x) = 0
      · have hn : f_X4_canShift S (nI x) (nI y) = 0 := by
          rw [f_X4_canShift, f_X4_isParked, car_eq hr.1 hr.2.ri, cc, if_pos rfl, if_pos rfl]
        rw [if_pos cc] at q
        refine cmdT_act (k := 5) (P := True) (B := (0, mR M)) (M1 := oS M (nI (sp M + 5))) rfl c2 (by omega) eE' eK eD hr (fun _ => by rw [h_X4_shift, if_pos hn]) (fun z => absurd trivial z) ?_
        rw [if_pos trivial]
        exact q
      · rw [if_neg cc] at q
        exact cmdT_act (k := 5) (P := f_X7_canMove (mR M) x y = 0) (B := h_X7_moveOn (mR M) x y) (M1 := oS M (nI (sp M + 5))) rfl c2 (by omega) eE' eK eD hr (fun z => mv_no hr (by omega) hy z) (fun z => mv_yes hr (by omega) hy z) q
    · rw [v3] at a2
      have e9 : oS (oS M (nI (sp M + 3))) (nI e) = oS M (nI e) := rfl
      rw [e9] at b2
      have q := eR _ _ b b2
      dsimp only at q
      rw [if_pos rfl] at q
      rw [q]
      have hez : e ≤ zz M := he
      exact cmdT_bad hez (by rw [eE, a, firstOf_r, a2]) rfl
  · rw [u3] at a
    have e9 : oS (oS M (nI (sp M + 1))) (nI e) = oS M (nI e) := rfl
    rw [e9] at b
    have q := eR _ _ b (fig_m1 (oS M (nI e)) 2 0 79)
    dsimp only at q
    rw [if_pos rfl] at q
    rw [q]
    have hez : e ≤ zz M := he
    have h120 := h.2.1
    exact cmdT_bad hez (by rw [eE, a, firstOf_l (by omega)]) rfl
