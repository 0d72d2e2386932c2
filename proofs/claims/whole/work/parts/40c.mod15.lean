theorem oS_RI {M : Mo} {v : Int32} (h : RI (mR M)) : RI (mR (oS M v)) := by
  rw [mR_oS]
  exact h
theorem RI_goesq {g : Rw} {c sta : Int32} (h : RI g) (hp : ¬ f_X7_isParked g c = 0) (hs : sta ≠ 0) : RI (h_X7_goes g c.toNatClampNeg sta).2 := by
  obtain ⟨j, hj, rfl, h2⟩ := park_c h hp
  have hm := h.m
  rw [nI_clamp (by omega)]
  exact RI_goes h (h.X hj h2).2.2 hs
theorem RI_mvq {g : Rw} {c x : Int32} (h : RI g) (hi : ¬ f_X7_isCar g c = 0) (hx : ∃ j, j < 80 ∧ x = nI j) (hm : ¬ f_X7_canMove g c.toNatClampNeg x.toNatClampNeg = 0) : RI (h_X7_moveOn g c.toNatClampNeg x.toNatClampNeg).2 := by
  obtain ⟨j, hj, rfl⟩ := car_40x hi h
  obtain ⟨u, hu, rfl⟩ := hx
  rw [nI_clamp (by omega), nI_clamp (by omega)] at hm ⊢
  have q := mv_ok h hj hu hm
  exact RI_moveOn h q.1 q.2.1 q.2.2

set_option maxHeartbeats 4000000 in
theorem cmd_ok {M : Mo} (hTI : TI M) (hsz : sp M < zz M) (h : RI (mR M)) : RI (mR (h_X7_readCommand M).2) := by
  have h1 : RI (mR (oS M ((mS M) + 1))) := h
  rw [h_X7_readCommand]
  by_cases q1 : ((mT M) (mS M).toNatClampNeg) = 99
  · rw [if_pos q1]
    by_cases q2 : ((h_X7_figures ((h_X7_figures (oS M ((mS M) + 1)) 0 1 2 8).2) ((h_X7_figures (oS M ((mS M) + 1)) 0 1 2 8).1) 2 1 99).1) = (-1)
    · rw [if_pos q2]
      dsimp only
      (repeat (first | with_reducible exact h1 | with_reducible apply done_RI | with_reducible apply fig_RI | with_reducible apply car_RI | with_reducible apply cel_RI | with_reducible apply oS_RI))
    · rw [if_neg q2]
      by_cases q3 : 40 ≤ ((mR ((h_X7_figures ((h_X7_figures (oS M ((mS M) + 1)) 0 1 2 8).2) ((h_X7_figures (oS M ((mS M) + 1)) 0 1 2 8).1) 2 1 99).2)) 0)
      · rw [if_pos q3]
        dsimp only
        (repeat (first | with_reducible exact h1 | with_reducible apply done_RI | with_reducible apply fig_RI | with_reducible apply car_RI | with_reducible apply cel_RI | with_reducible apply oS_RI))
      · rw [if_neg q3]
        by_cases q4 : ((h_X7_comeOn (mR ((h_X7_figures ((h_X7_figures (oS M ((mS M) + 1)) 0 1 2 8).2) ((h_X7_figures (oS M ((mS M) + 1)) 0 1 2 8).1) 2 1 99).2)) ((h_X7_figures (oS M ((mS M) + 1)) 0 1 2 8).1) ((h_X7_figures ((h_X7_figures (oS M ((mS M) + 1)) 0 1 2 8).2) ((h_X7_figures (oS M ((mS M) + 1)) 0 1 2 8).1) 2 1 99).1)).1) < 0
        · rw [if_pos q4]
          have hY : RI (mR ((h_X7_figures ((h_X7_figures (oS M ((mS M) + 1)) 0 1 2 8).2) ((h_X7_figures (oS M ((mS M) + 1)) 0 1 2 8).1) 2 1 99).2)) := by (repeat (first | with_reducible exact h1 | with_reducible apply done_RI | with_reducible apply fig_RI | with_reducible apply car_RI | with_reducible apply cel_RI | with_reducible apply oS_RI))
          exact done_RI (RI_oR (RI_come hY (gm40 hY (by first | with_reducible assumption | assumption)) (fig_len (by first | with_reducible assumption | assumption))))
        · rw [if_neg q4]
          have hY : RI (mR ((h_X7_figures ((h_X7_figures (oS M ((mS M) + 1)) 0 1 2 8).2) ((h_X7_figures (oS M ((mS M) + 1)) 0 1 2 8).1) 2 1 99).2)) := by (repeat (first | with_reducible exact h1 | with_reducible apply done_RI | with_reducible apply fig_RI | with_reducible apply car_RI | with_reducible apply cel_RI | with_reducible apply oS_RI))
          exact done_RI (RI_oR (RI_come hY (gm40 hY (by first | with_reducible assumption | assumption)) (fig_len (by first | with_reducible assumption | assumption))))
  · rw [if_neg q1]
    by_cases q5 : ((mT M) (mS M).toNatClampNeg) = 104
    · rw [if_pos q5]
      exact hyd_RI h1
    · rw [if_neg q5]
      by_cases q6 : ((mT M) (mS M).toNatClampNeg) = 108
      · rw [if_pos q6]
        by_cases q7 : ((h_X7_carSign (oS M ((mS M) + 1))).1) = (-1)
        · rw [if_pos q7]
          dsimp only
          (repeat (first | with_reducible exact h1 | with_reducible apply done_RI | with_reducible apply fig_RI | with_reducible apply car_RI | with_reducible apply cel_RI | with_reducible apply oS_RI))
        · rw [if_neg q7]
          by_cases q8 : (f_X7_isParked (mR ((h_X7_carSign (oS M ((mS M) + 1))).2)) ((h_X7_carSign (oS M ((mS M) + 1))).1)) = 0
          · rw [if_pos q8]
            dsimp only
            (repeat (first | with_reducible exact h1 | with_reducible apply done_RI | with_reducible apply fig_RI | with_reducible apply car_RI | with_reducible apply cel_RI | with_reducible apply oS_RI))
          · rw [if_neg q8]
            by_cases q9 : ((h_X7_goes (mR ((h_X7_carSign (oS M ((mS M) + 1))).2)) (((h_X7_carSign (oS M ((mS M) + 1))).1).toNatClampNeg) 2).1) < 0
            · rw [if_pos q9]
              have hY : RI (mR ((h_X7_carSign (oS M ((mS M) + 1))).2)) := by (repeat (first | with_reducible exact h1 | with_reducible apply done_RI | with_reducible apply fig_RI | with_reducible apply car_RI | with_reducible apply cel_RI | with_reducible apply oS_RI))
              exact done_RI (RI_oR (RI_goesq hY (by first | with_reducible assumption | assumption) (by decide)))
            · rw [if_neg q9]
              have hY : RI (mR ((h_X7_carSign (oS M ((mS M) + 1))).2)) := by (repeat (first | with_reducible exact h1 | with_reducible apply done_RI | with_reducible apply fig_RI | with_reducible apply car_RI | with_reducible apply cel_RI | with_reducible apply oS_RI))
              exact done_RI (RI_oR (RI_goesq hY (by first | with_reducible assumption | assumption) (by decide)))
      · rw [if_neg q6]
        by_cases q10 : ((mT M) (mS M).toNatClampNeg) = 109
        · rw [if_pos q10]
          by_cases q11 : ((h_X7_cellSign ((h_X7_carSign (oS M ((mS M) + 1))).2) ((h_X7_carSign (oS M ((mS M) + 1))).1)).1) = (-1)
          · rw [if_pos q11]
            dsimp only
            (repeat (first | with_reducible exact h1 | with_reducible apply done_RI | with_reducible apply fig_RI | with_reducible apply car_RI | with_reducible apply cel_RI | with_reducible apply oS_RI))
          · rw [if_neg q11]
            by_cases q12 : (f_X7_isCar (mR ((h_X7_cellSign ((h_X7_carSign (oS M ((mS M) + 1))).2) ((h_X7_carSign (oS M ((mS M) + 1))).1)).2)) ((h_X7_carSign (oS M ((mS M) + 1))).1)) = 0
            · rw [if_pos q12]
              dsimp only
              (repeat (first | with_reducible exact h1 | with_reducible apply done_RI | with_reducible apply fig_RI | with_reducible apply car_RI | with_reducible apply cel_RI | with_reducible apply oS_RI))
            · rw [if_neg q12]
              by_cases q13 : (f_X7_canMove (mR ((h_X7_cellSign ((h_X7_carSign (oS M ((mS M) + 1))).2) ((h_X7_carSign (oS M ((mS M) + 1))).1)).2)) (((h_X7_carSign (oS M ((mS M) + 1))).1).toNatClampNeg) (((h_X7_cellSign ((h_X7_carSign (oS M ((mS M) + 1))).2) ((h_X7_carSign (oS M ((mS M) + 1))).1)).1).toNatClampNeg)) = 0
              · rw [if_pos q13]
                dsimp only
                (repeat (first | with_reducible exact h1 | with_reducible apply done_RI | with_reducible apply fig_RI | with_reducible apply car_RI | with_reducible apply cel_RI | with_reducible apply oS_RI))
              · rw [if_neg q13]
                by_cases q14 : ((h_X7_moveOn (mR ((h_X7_cellSign ((h_X7_carSign (oS M ((mS M) + 1))).2) ((h_X7_carSign (oS M ((mS M) + 1))).1)).2)) (((h_X7_carSign (oS M ((mS M) + 1))).1).toNatClampNeg) (((h_X7_cellSign ((h_X7_carSign (oS M ((mS M) + 1))).2) ((h_X7_carSign (oS M ((mS M) + 1))).1)).1).toNatClampNeg)).1) < 0
                · rw [if_pos q14]
                  have hY : RI (mR ((h_X7_cellSign ((h_X7_carSign (oS M ((mS M) + 1))).2) ((h_X7_carSign (oS M ((mS M) + 1))).1)).2)) := by (repeat (first | with_reducible exact h1 | with_reducible apply done_RI | with_reducible apply fig_RI | with_reducible apply car_RI | with_reducible apply cel_RI | with_reducible apply oS_RI))
                  exact done_RI (RI_oR (RI_mvq hY (by first | with_reducible assumption | assumption) (cel_n (by first | with_reducible assumption | assumption)) (by first | with_reducible assumption | assumption)))
                · rw [if_neg q14]
                  have hY : RI (mR ((h_X7_cellSign ((h_X7_carSign (oS M ((mS M) + 1))).2) ((h_X7_carSign (oS M ((mS M) + 1))).1)).2)) := by (repeat (first | with_reducible exact h1 | with_reducible apply done_RI | with_reducible apply fig_RI | with_reducible apply car_RI | with_reducible apply cel_RI | with_reducible apply oS_RI))
                  exact done_RI (RI_oR (RI_mvq hY (by first | with_reducible assumption | assumption) (cel_n (by first | with_reducible assumption | assumption)) (by first | with_reducible assumption | assumption)))
        · rw [if_neg q10]
          by_cases q15 : ((mT M) (mS M).toNatClampNeg) = 112
          · rw [if_pos q15]
            by_cases q16 : ((h_X7_figures (oS M ((mS M) + 1)) 0 2 1 60).1) = (-1)
            · rw [if_pos q16]
              dsimp only
              (repeat (first | with_reducible exact h1 | with_reducible apply done_RI | with_reducible apply fig_RI | with_reducible apply car_RI | with_reducible apply cel_RI | with_reducible apply oS_RI))
            · rw [if_neg q16]
              by_cases q17 : ((h_X7_minutesOn (mR ((h_X7_figures (oS M ((mS M) + 1)) 0 2 1 60).2)) ((h_X7_figures (oS M ((mS M) + 1)) 0 2 1 60).1)).1) < 0
              · rw [if_pos q17]
                have hY : RI (mR ((h_X7_figures (oS M ((mS M) + 1)) 0 2 1 60).2)) := by (repeat (first | with_reducible exact h1 | with_reducible apply done_RI | with_reducible apply fig_RI | with_reducible apply car_RI | with_reducible apply cel_RI | with_reducible apply oS_RI))
                exact done_RI (RI_oR (RI_mins hY _))
              · rw [if_neg q17]
                have hY : RI (mR ((h_X7_figures (oS M ((mS M) + 1)) 0 2 1 60).2)) := by (repeat (first | with_reducible exact h1 | with_reducible apply done_RI | with_reducible apply fig_RI | with_reducible apply car_RI | with_reducible apply cel_RI | with_reducible apply oS_RI))
                exact done_RI (RI_oR (RI_mins hY _))
          · rw [if_neg q15]
            by_cases q18 : ((mT M) (mS M).toNatClampNeg) = 114
            · rw [if_pos q18]
              by_cases q19 : ((h_X7_figures (oS M ((mS M) + 1)) 0 1 0 2).1) = (-1)
              · rw [if_pos q19]
                dsimp only
                (repeat (first | with_reducible exact h1 | with_reducible apply done_RI | with_reducible apply fig_RI | with_reducible apply car_RI | with_reducible apply cel_RI | with_reducible apply oS_RI))
              · rw [if_neg q19]
                by_cases q20 : ((h_X7_change (mR ((h_X7_figures (oS M ((mS M) + 1)) 0 1 0 2).2)) 0 ((h_X7_figures (oS M ((mS M) + 1)) 0 1 0 2).1)).1) < 0
                · rw [if_pos q20]
                  have hY : RI (mR ((h_X7_figures (oS M ((mS M) + 1)) 0 1 0 2).2)) := by (repeat (first | with_reducible exact h1 | with_reducible apply done_RI | with_reducible apply fig_RI | with_reducible apply car_RI | with_reducible apply cel_RI | with_reducible apply oS_RI))
                  exact done_RI (RI_oR (RI_chg hY (by omega) _ (fun z => absurd z (by decide))))
                · rw [if_neg q20]
                  have hY : RI (mR ((h_X7_figures (oS M ((mS M) + 1)) 0 1 0 2).2)) := by (repeat (first | with_reducible exact h1 | with_reducible apply done_RI | with_reducible apply fig_RI | with_reducible apply car_RI | with_reducible apply cel_RI | with_reducible apply oS_RI))
                  exact done_RI (RI_oR (RI_chg hY (by omega) _ (fun z => absurd z (by decide))))
            · rw [if_neg q18]
              by_cases q21 : ((mT M) (mS M).toNatClampNeg) = 116
              · rw [if_pos q21]
                by_cases q22 : ((h_X7_carSign (oS M ((mS M) + 1))).1) = (-1)
                · rw [if_pos q22]
                  dsimp only
                  (repeat (first | with_reducible exact h1 | with_reducible apply done_RI | with_reducible apply fig_RI | with_reducible apply car_RI | with_reducible apply cel_RI | with_reducible apply oS_RI))
                · rw [if_neg q22]
                  by_cases q23 : (f_X7_isParked (mR ((h_X7_carSign (oS M ((mS M) + 1))).2)) ((h_X7_carSign (oS M ((mS M) + 1))).1)) = 0
                  · rw [if_pos q23]
                    dsimp only
                    (repeat (first | with_reducible exact h1 | with_reducible apply done_RI | with_reducible apply fig_RI | with_reducible apply car_RI | with_reducible apply cel_RI | with_reducible apply oS_RI))
                  · rw [if_neg q23]
                    by_cases q24 : ((h_X7_goes (mR ((h_X7_carSign (oS M ((mS M) + 1))).2)) (((h_X7_carSign (oS M ((mS M) + 1))).1).toNatClampNeg) 4).1) < 0
                    · rw [if_pos q24]
                      have hY : RI (mR ((h_X7_carSign (oS M ((mS M) + 1))).2)) := by (repeat (first | with_reducible exact h1 | with_reducible apply done_RI | with_reducible apply fig_RI | with_reducible apply car_RI | with_reducible apply cel_RI | with_reducible apply oS_RI))
                      exact done_RI (RI_oR (RI_goesq hY (by first | with_reducible assumption | assumption) (by decide)))
                    · rw [if_neg q24]
                      have hY : RI (mR ((h_X7_carSign (oS M ((mS M) + 1))).2)) := by (repeat (first | with_reducible exact h1 | with_reducible apply done_RI | with_reducible apply fig_RI | with_reducible apply car_RI | with_reducible apply cel_RI | with_reducible apply oS_RI))
                      exact done_RI (RI_oR (RI_goesq hY (by first | with_reducible assumption | assumption) (by decide)))
              · rw [if_neg q21]
                dsimp only
                (repeat (first | with_reducible exact h1 | with_reducible apply done_RI | with_reducible apply fig_RI | with_reducible apply car_RI | with_reducible apply cel_RI | with_reducible apply oS_RI))
set_option maxHeartbeats 4000000 in
theorem cmd_Adv {M : Mo} (hTI : TI M) (hsz : sp M < zz M) : ¬ (h_X7_readCommand M).1 = 0 → Adv (oS M ((mS M) + 1)) (h_X7_readCommand M).2 := by
  have a0 := (hTI.up hsz).1.A
  rw [h_X7_readCommand]
  by_cases q1 : ((mT M) (mS M).toNatClampNeg) = 99
  · rw [if_pos q1]
    by_cases q2 : ((h_X7_figures ((h_X7_figures (oS M ((mS M) + 1)) 0 1 2 8).2) ((h_X7_figures (oS M ((mS M) + 1)) 0 1 2 8).1) 2 1 99).1) = (-1)
    · rw [if_pos q2]
      exact fun z => absurd rfl z
    · rw [if_neg q2]
      by_cases q3 : 40 ≤ ((mR ((h_X7_figures ((h_X7_figures (oS M ((mS M) + 1)) 0 1 2 8).2) ((h_X7_figures (oS M ((mS M) + 1)) 0 1 2 8).1) 2 1 99).2)) 0)
      · rw [if_pos q3]
        intro _
        dsimp only
        (repeat (first | with_reducible exact a0 | with_reducible apply done_Adv | with_reducible apply hyd_Adv | with_reducible apply fig_Adv | with_reducible apply car_Adv | with_reducible apply cel_Adv | with_reducible apply oR_Adv))
      · rw [if_neg q3]
        by_cases q4 : ((h_X7_comeOn (mR ((h_X7_figures ((h_X7_figures (oS M ((mS M) + 1)) 0 1 2 8).2) ((h_X7_figures (oS M ((mS M) + 1)) 0 1 2 8).1) 2 1 99).2)) ((h_X7_figures (oS M ((mS M) + 1)) 0 1 2 8).1) ((h_X7_figures ((h_X7_figures (oS M ((mS M) + 1)) 0 1 2 8).2) ((h_X7_figures (oS M ((mS M) + 1)) 0 1 2 8).1) 2 1 99).1)).1) < 0
        · rw [if_pos q4]
          intro _
          dsimp only
          (repeat (first | with_reducible exact a0 | with_reducible apply done_Adv | with_reducible apply hyd_Adv | with_reducible apply fig_Adv | with_reducible apply car_Adv | with_reducible apply cel_Adv | with_reducible apply oR_Adv))
        · rw [if_neg q4]
          intro _
          dsimp only
          (repeat (first | with_reducible exact a0 | with_reducible apply done_Adv | with_reducible apply hyd_Adv | with_reducible apply fig_Adv | with_reducible apply car_Adv | with_reducible apply cel_Adv | with_reducible apply oR_Adv))
  · rw [if_neg q1]
    by_cases q5 : ((mT M) (mS M).toNatClampNeg) = 104
    · rw [if_pos q5]
      intro _
      dsimp only
      (repeat (first | with_reducible exact a0 | with_reducible apply done_Adv | with_reducible apply hyd_Adv | with_reducible apply fig_Adv | with_reducible apply car_Adv | with_reducible apply cel_Adv | with_reducible apply oR_Adv))
    · rw [if_neg q5]
      by_cases q6 : ((mT M) (mS M).toNatClampNeg) = 108
      · rw [if_pos q6]
        by_cases q7 : ((h_X7_carSign (oS M ((mS M) + 1))).1) = (-1)
        · rw [if_pos q7]
          exact fun z => absurd rfl z
        · rw [if_neg q7]
          by_cases q8 : (f_X7_isParked (mR ((h_X7_carSign (oS M ((mS M) + 1))).2)) ((h_X7_carSign (oS M ((mS M) + 1))).1)) = 0
          · rw [if_pos q8]
            intro _
            dsimp only
            (repeat (first | with_reducible exact a0 | with_reducible apply done_Adv | with_reducible apply hyd_Adv | with_reducible apply fig_Adv | with_reducible apply car_Adv | with_reducible apply cel_Adv | with_reducible apply oR_Adv))
          · rw [if_neg q8]
            by_cases q9 : ((h_X7_goes (mR ((h_X7_carSign (oS M ((mS M) + 1))).2)) (((h_X7_carSign (oS M ((mS M) + 1))).1).toNatClampNeg) 2).1) < 0
            · rw [if_pos q9]
              intro _
              dsimp only
              (repeat (first | with_reducible exact a0 | with_reducible apply done_Adv | with_reducible apply hyd_Adv | with_reducible apply fig_Adv | with_reducible apply car_Adv | with_reducible apply cel_Adv | with_reducible apply oR_Adv))
            · rw [if_neg q9]
              intro _
              dsimp only
              (repeat (first | with_reducible exact a0 | with_reducible apply done_Adv | with_reducible apply hyd_Adv | with_reducible apply fig_Adv | with_reducible apply car_Adv | with_reducible apply cel_Adv | with_reducible apply oR_Adv))
      · rw [if_neg q6]
        by_cases q10 : ((mT M) (mS M).toNatClampNeg) = 109
        · rw [if_pos q10]
          by_cases q11 : ((h_X7_cellSign ((h_X7_carSign (oS M ((mS M) + 1))).2) ((h_X7_carSign (oS M ((mS M) + 1))).1)).1) = (-1)
          · rw [if_pos q11]
            exact fun z => absurd rfl z
          · rw [if_neg q11]
            by_cases q12 : (f_X7_isCar (mR ((h_X7_cellSign ((h_X7_carSign (oS M ((mS M) + 1))).2) ((h_X7_carSign (oS M ((mS M) + 1))).1)).2)) ((h_X7_carSign (oS M ((mS M) + 1))).1)) = 0
            · rw [if_pos q12]
              intro _
              dsimp only
              (repeat (first | with_reducible exact a0 | with_reducible apply done_Adv | with_reducible apply hyd_Adv | with_reducible apply fig_Adv | with_reducible apply car_Adv | with_reducible apply cel_Adv | with_reducible apply oR_Adv))
            · rw [if_neg q12]
              by_cases q13 : (f_X7_canMove (mR ((h_X7_cellSign ((h_X7_carSign (oS M ((mS M) + 1))).2) ((h_X7_carSign (oS M ((mS M) + 1))).1)).2)) (((h_X7_carSign (oS M ((mS M) + 1))).1).toNatClampNeg) (((h_X7_cellSign ((h_X7_carSign (oS M ((mS M) + 1))).2) ((h_X7_carSign (oS M ((mS M) + 1))).1)).1).toNatClampNeg)) = 0
              · rw [if_pos q13]
                intro _
                dsimp only
                (repeat (first | with_reducible exact a0 | with_reducible apply done_Adv | with_reducible apply hyd_Adv | with_reducible apply fig_Adv | with_reducible apply car_Adv | with_reducible apply cel_Adv | with_reducible apply oR_Adv))
              · rw [if_neg q13]
                by_cases q14 : ((h_X7_moveOn (mR ((h_X7_cellSign ((h_X7_carSign (oS M ((mS M) + 1))).2) ((h_X7_carSign (oS M ((mS M) + 1))).1)).2)) (((h_X7_carSign (oS M ((mS M) + 1))).1).toNatClampNeg) (((h_X7_cellSign ((h_X7_carSign (oS M ((mS M) + 1))).2) ((h_X7_carSign (oS M ((mS M) + 1))).1)).1).toNatClampNeg)).1) < 0
                · rw [if_pos q14]
                  intro _
                  dsimp only
                  (repeat (first | with_reducible exact a0 | with_reducible apply done_Adv | with_reducible apply hyd_Adv | with_reducible apply fig_Adv | with_reducible apply car_Adv | with_reducible apply cel_Adv | with_reducible apply oR_Adv))
                · rw [if_neg q14]
                  intro _
                  dsimp only
                  (repeat (first | with_reducible exact a0 | with_reducible apply done_Adv | with_reducible apply hyd_Adv | with_reducible apply fig_Adv | with_reducible apply car_Adv | with_reducible apply cel_Adv | with_reducible apply oR_Adv))
        · rw [if_neg q10]
          by_cases q15 : ((mT M) (mS M).toNatClampNeg) = 112
          · rw [if_pos q15]
            by_cases q16 : ((h_X7_figures (oS M ((mS M) + 1)) 0 2 1 60).1) = (-1)
            · rw [if_pos q16]
              exact fun z => absurd rfl z
            · rw [if_neg q16]
              by_cases q17 : ((h_X7_minutesOn (mR ((h_X7_figures (oS M ((mS M) + 1)) 0 2 1 60).2)) ((h_X7_figures (oS M ((mS M) + 1)) 0 2 1 60).1)).1) < 0
              · rw [if_pos q17]
                intro _
                dsimp only
                (repeat (first | with_reducible exact a0 | with_reducible apply done_Adv | with_reducible apply hyd_Adv | with_reducible apply fig_Adv | with_reducible apply car_Adv | with_reducible apply cel_Adv | with_reducible apply oR_Adv))
              · rw [if_neg q17]
                intro _
                dsimp only
                (repeat (first | with_reducible exact a0 | with_reducible apply done_Adv | with_reducible apply hyd_Adv | with_reducible apply fig_Adv | with_reducible apply car_Adv | with_reducible apply cel_Adv | with_reducible apply oR_Adv))
          · rw [if_neg q15]
            by_cases q18 : ((mT M) (mS M).toNatClampNeg) = 114
            · rw [if_pos q18]
              by_cases q19 : ((h_X7_figures (oS M ((mS M) + 1)) 0 1 0 2).1) = (-1)
              · rw [if_pos q19]
                exact fun z => absurd rfl z
              · rw [if_neg q19]
                by_cases q20 : ((h_X7_change (mR ((h_X7_figures (oS M ((mS M) + 1)) 0 1 0 2).2)) 0 ((h_X7_figures (oS M ((mS M) + 1)) 0 1 0 2).1)).1) < 0
                · rw [if_pos q20]
                  intro _
                  dsimp only
                  (repeat (first | with_reducible exact a0 | with_reducible apply done_Adv | with_reducible apply hyd_Adv | with_reducible apply fig_Adv | with_reducible apply car_Adv | with_reducible apply cel_Adv | with_reducible apply oR_Adv))
                · rw [if_neg q20]
                  intro _
                  dsimp only
                  (repeat (first | with_reducible exact a0 | with_reducible apply done_Adv | with_reducible apply hyd_Adv | with_reducible apply fig_Adv | with_reducible apply car_Adv | with_reducible apply cel_Adv | with_reducible apply oR_Adv))
            · rw [if_neg q18]
              by_cases q21 : ((mT M) (mS M).toNatClampNeg) = 116
              · rw [if_pos q21]
                by_cases q22 : ((h_X7_carSign (oS M ((mS M) + 1))).1) = (-1)
                · rw [if_pos q22]
                  exact fun z => absurd rfl z
                · rw [if_neg q22]
                  by_cases q23 : (f_X7_isParked (mR ((h_X7_carSign (oS M ((mS M) + 1))).2)) ((h_X7_carSign (oS M ((mS M) + 1))).1)) = 0
                  · rw [if_pos q23]
                    intro _
                    dsimp only
                    (repeat (first | with_reducible exact a0 | with_reducible apply done_Adv | with_reducible apply hyd_Adv | with_reducible apply fig_Adv | with_reducible apply car_Adv | with_reducible apply cel_Adv | with_reducible apply oR_Adv))
                  · rw [if_neg q23]
                    by_cases q24 : ((h_X7_goes (mR ((h_X7_carSign (oS M ((mS M) + 1))).2)) (((h_X7_carSign (oS M ((mS M) + 1))).1).toNatClampNeg) 4).1) < 0
                    · rw [if_pos q24]
                      intro _
                      dsimp only
                      (repeat (first | with_reducible exact a0 | with_reducible apply done_Adv | with_reducible apply hyd_Adv | with_reducible apply fig_Adv | with_reducible apply car_Adv | with_reducible apply cel_Adv | with_reducible apply oR_Adv))
                    · rw [if_neg q24]
                      intro _
                      dsimp only
                      (repeat (first | with_reducible exact a0 | with_reducible apply done_Adv | with_reducible apply hyd_Adv | with_reducible apply fig_Adv | with_reducible apply car_Adv | with_reducible apply cel_Adv | with_reducible apply oR_Adv))
              · rw [if_neg q21]
                exact fun z => absurd rfl z
theorem cmd_TI {M : Mo} (hTI : TI M) (hsz : sp M < zz M) (hn : ¬ (h_X7_readCommand M).1 = 0) : TI (h_X7_readCommand M).2 ∧ zz (h_X7_readCommand M).2 - sp (h_X7_readCommand M).2 < zz M - sp M := by
  have q := cmd_Adv hTI hsz hn
  have r := hTI.up hsz
  refine ⟨q.1, ?_⟩
  have a := q.1.2.2.2
  have c := q.2.1
  have d := q.2.2
  omega
