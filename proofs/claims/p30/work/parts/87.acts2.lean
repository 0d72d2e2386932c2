/-! how many came, behind every action -/
theorem N_pT (S : St) (c v : Int32) : sN (pT S c v) = sN S := rfl
theorem N_pP (S : St) (c v : Int32) : sN (pP S c v) = sN S := rfl
theorem N_shift (S : St) (c x : Int32) : sN (h_X4_shift S c x).2 = sN S := by
  rw [h_X4_shift]
  split
  · rfl
  · split
    · show sN (pP (h_X4_occupy (h_X4_occupy _ _ _ _) _ _ _) _ _) = _
      rw [N_pP, N_occ, N_occ]
    · show sN (pP (h_X4_occupy (h_X4_occupy _ _ _ _) _ _ _) _ _) = _
      rw [N_pP, N_occ, N_occ]
theorem N_set (S : St) (w v : Int32) : sN (h_X4_changeSetting S w v).2 = sN S := by
  rw [h_X4_changeSetting]
  split
  · rfl
  · split
    · rfl
    · split
      · rfl
      · rfl
theorem N_hyd (S : St) (x on : Int32) : sN (h_X4_putHydrant S x on).2 = sN S := by
  rw [h_X4_putHydrant]
  split
  · rfl
  · split
    · split
      · exact N_occ S x 1 (-1)
      · rfl
    · exact N_occ S x 1 100
theorem N_come (S : St) (len stay : Int32) : sN (h_X4_arrive S len stay).2 = sN S ∨ sN (h_X4_arrive S len stay).2 = sN S + 1 := by
  rw [h_X4_arrive]
  split
  · exact Or.inl rfl
  · split
    · exact Or.inl rfl
    · split
      · exact Or.inr (N_try _ _)
      · exact Or.inl rfl
theorem nm_come {X : Cx} {M : Mo} (h : RelX X M) (u v : Int32) : nm (xN X) ≤ nm (h_X4_arrive (xN X) u v).2 ∧ nm (h_X4_arrive (xN X) u v).2 ≤ nm (xN X) + 1 := by
  have e : sN (xN X) = nI (gm (mN M)) := h.nw.1.1.1.symm.trans h.nw.2.ri.m.1
  have hm := h.nw.2.ri.m.2
  have e0 : nm (xN X) = gm (mN M) := nm_gm h
  rcases N_come (xN X) u v with z | z
  · have e1 : nm (h_X4_arrive (xN X) u v).2 = nm (xN X) := congrArg Int32.toNatClampNeg z
    omega
  · have e1 : nm (h_X4_arrive (xN X) u v).2 = gm (mN M) + 1 := by
      rw [nm, z, e, nI_1, nI_clamp (by omega)]
    omega
theorem Ch.same {X : Cx} (h : Ch X) {S : St} (hO : qO (xH X) < 14) (hk : qK (xH X) ≤ 14) (e : sN S = sN (xN X)) : Ch (rm X S) := by
  have e1 : nm S = nm (xN X) := congrArg Int32.toNatClampNeg e
  have := h.1
  exact h.rmb hO hk (by omega) (by omega)
/-! what is done on a street, with what it answers -/
theorem aq_hydrant {X : Cx} {M : Mo} (x on : Int32) (h : RelX X M) (hc : Ch X) : pv (h_X6_hydrant X x on) X = (rvE (cd "java/lang/IndexOutOfBoundsException") (cd "java/lang/IllegalStateException") (h_X7_hydrant M x on), (pv (h_X6_hydrant X x on) X).2) ∧ RelX (pv (h_X6_hydrant X x on) X).2 (h_X7_hydrant M x on).2 ∧ Ch (pv (h_X6_hydrant X x on) X).2 := by
  have q := ok_pv (o_hydrant x on h) (fun E z => th_hydrant X x on E z)
  refine ⟨q.1, q.2, ?_⟩
  clear q
  rw [h_X6_hydrant]
  by_cases q1 : (f_X6_requireCell x) = 0
  · rw [if_pos q1]
    exact hc
  · rw [if_neg q1]
    by_cases q2 : (f_X4_allowsHydrant (xN X) x on) = 0
    · rw [if_pos q2]
      exact hc
    · rw [if_neg q2]
      rw [xN_1]
      exact hc.same h.ho h.hk (N_hyd _ _ _)
theorem aq_come {X : Cx} {M : Mo} (u v : Int32) (h : RelX X M) (hc : Ch X) : pv (h_X6_come X u v) X = (rvE (cd "java/lang/IllegalArgumentException") (cd "java/lang/IllegalStateException") (h_X7_come M u v), (pv (h_X6_come X u v) X).2) ∧ RelX (pv (h_X6_come X u v) X).2 (h_X7_come M u v).2 ∧ Ch (pv (h_X6_come X u v) X).2 := by
  have q := ok_pv (o_come u v h) (fun E z => th_come X u v E z)
  refine ⟨q.1, q.2, ?_⟩
  clear q
  rw [h_X6_come]
  by_cases q1 : (f_X6_requireLength u) = 0
  · rw [if_pos q1]
    exact hc
  · rw [if_neg q1]
    by_cases q2 : (f_X6_isStay v) = 0
    · rw [if_pos q2]
      exact hc
    · rw [if_neg q2]
      by_cases q3 : (f_X4_allCame (xN X)) = 0
      · rw [if_pos q3]
        rw [xN_1]
        exact hc.rmb h.ho h.hk (Nat.le_trans hc.1 (nm_come h u v).1) (nm_come h u v).2
      · rw [if_neg q3]
        exact hc
theorem aq_leave {X : Cx} {M : Mo} (c : Int32) (h : RelX X M) (hc : Ch X) : pv (h_X6_leave X c) X = (rvE (cd "java/lang/IndexOutOfBoundsException") (cd "java/lang/IllegalStateException") (h_X7_leave M c), (pv (h_X6_leave X c) X).2) ∧ RelX (pv (h_X6_leave X c) X).2 (h_X7_leave M c).2 ∧ Ch (pv (h_X6_leave X c) X).2 := by
  have q := ok_pv (o_leave c h) (fun E z => th_leave X c E z)
  refine ⟨q.1, q.2, ?_⟩
  clear q
  rw [h_X6_leave]
  by_cases q1 : (f_X6_requireCar X c) = 0
  · rw [if_pos q1]
    exact hc
  · rw [if_neg q1]
    by_cases q2 : (f_X6_requireParked X c) = 0
    · rw [if_pos q2]
      exact hc
    · rw [if_neg q2]
      rw [xN_1]
      exact hc.same h.ho h.hk (N_dep _ _ _)
theorem aq_tow {X : Cx} {M : Mo} (c : Int32) (h : RelX X M) (hc : Ch X) : pv (h_X6_tow X c) X = (rvE (cd "java/lang/IndexOutOfBoundsException") (cd "java/lang/IllegalStateException") (h_X7_tow M c), (pv (h_X6_tow X c) X).2) ∧ RelX (pv (h_X6_tow X c) X).2 (h_X7_tow M c).2 ∧ Ch (pv (h_X6_tow X c) X).2 := by
  have q := ok_pv (o_tow c h) (fun E z => th_tow X c E z)
  refine ⟨q.1, q.2, ?_⟩
  clear q
  rw [h_X6_tow]
  by_cases q1 : (f_X6_requireCar X c) = 0
  · rw [if_pos q1]
    exact hc
  · rw [if_neg q1]
    by_cases q2 : (f_X6_requireParked X c) = 0
    · rw [if_pos q2]
      exact hc
    · rw [if_neg q2]
      rw [xN_1]
      exact hc.same h.ho h.hk (N_dep _ _ _)
theorem aq_move {X : Cx} {M : Mo} (c x : Int32) (h : RelX X M) (hc : Ch X) : pv (h_X6_move X c x) X = (rvE (cd "java/lang/IndexOutOfBoundsException") (cd "java/lang/IllegalStateException") (h_X7_move M c x), (pv (h_X6_move X c x) X).2) ∧ RelX (pv (h_X6_move X c x) X).2 (h_X7_move M c x).2 ∧ Ch (pv (h_X6_move X c x) X).2 := by
  have q := ok_pv (o_move c x h) (fun E z => th_move X c x E z)
  refine ⟨q.1, q.2, ?_⟩
  clear q
  rw [h_X6_move]
  by_cases q1 : (f_X6_requireCar X c) = 0
  · rw [if_pos q1]
    exact hc
  · rw [if_neg q1]
    by_cases q2 : (f_X6_requireCell x) = 0
    · rw [if_pos q2]
      exact hc
    · rw [if_neg q2]
      by_cases q3 : (f_X4_canShift (xN X) c x) = 0
      · rw [if_pos q3]
        exact hc
      · rw [if_neg q3]
        rw [xN_1]
        exact hc.same h.ho h.hk (N_shift _ _ _)
theorem aq_set {X : Cx} {M : Mo} (w v : Int32) (h : RelX X M) (hc : Ch X) : pv (h_X6_set X w v) X = (rvE (cd "java/lang/IllegalArgumentException") (cd "java/lang/IllegalArgumentException") (h_X7_set M w v), (pv (h_X6_set X w v) X).2) ∧ RelX (pv (h_X6_set X w v) X).2 (h_X7_set M w v).2 ∧ Ch (pv (h_X6_set X w v) X).2 := by
  have q := ok_pv (E2 := "java/lang/IllegalArgumentException") (o_set w v h) (fun E z => Or.inl (th_set X w v E z))
  refine ⟨q.1, q.2, ?_⟩
  clear q
  rw [h_X6_set]
  by_cases q1 : (f_X6_isSettingValue w v) = 0
  · rw [if_pos q1]
    exact hc
  · rw [if_neg q1]
    rw [xN_1]
    exact hc.same h.ho h.hk (N_set _ _ _)
theorem wt_60 {X : Cx} {p : Nat} (hp : 1 ≤ p ∧ p ≤ 60) : wt X p = rm X (h_X4_passMinutes (xN X) (nI p)).2 := by rw [wt, if_neg (by omega), if_pos hp.2]
theorem aq_min {X : Cx} {M : Mo} {p : Nat} (hp : 1 ≤ p ∧ p ≤ 60) (h : RelX X M) (hc : Ch X) : pv (h_X6_minutes X (nI p)) X = ((h_X7_minutesOn (mN M) (nI p)).1, wt X p) ∧ RelX (wt X p) (h_X7_minutes M (nI p)).2 ∧ Ch (wt X p) := by
  have q := ac_min h hp
  have c := wt_Ch h hc (k := p) (by omega)
  rw [wt_60 hp] at c ⊢
  exact ⟨q.1, q.2.1, c⟩
theorem aq_undo {X : Cx} {M : Mo} (h : RelX X M) (hc : Ch X) (h3 : 3 ≤ gm (mN M)) : pv (h_X6_undo X) X = (rvE (cd "java/lang/IllegalStateException") (cd "java/lang/IllegalStateException") (h_X7_undo M), (pv (h_X6_undo X) X).2) ∧ RelX (pv (h_X6_undo X) X).2 (h_X7_undo M).2 ∧ Ch (pv (h_X6_undo X) X).2 := by
  have q := ok_pv (E2 := "java/lang/IllegalStateException") (o_undo h) (fun E z => Or.inl (th_undo X E z))
  refine ⟨q.1, q.2, ?_⟩
  clear q
  rcases Nat.eq_zero_or_pos (qK (xH X)) with z | z
  · have e : h_X6_undo X = .inl "java/lang/IllegalStateException" := by
      rw [h_X6_undo, if_neg]
      rw [f_X0_isEmpty, z]
      decide
    rw [e]
    exact hc
  · rw [(ac_undo h z).1]
    exact hc.un3 z (by rw [nm_gm h]; exact h3)
theorem aq_save {X : Cx} {M : Mo} {j : Nat} (hj : j < 2) (h : RelX X M) (hc : Ch X) : pv (h_X6_save X (nI j)) X = (rvE (cd "java/lang/IndexOutOfBoundsException") (cd "java/lang/IndexOutOfBoundsException") (h_X7_save M (nI j)), (pv (h_X6_save X (nI j)) X).2) ∧ RelX (pv (h_X6_save X (nI j)) X).2 (h_X7_save M (nI j)).2 ∧ Ch (pv (h_X6_save X (nI j)) X).2 := by
  have q := ok_pv (E2 := "java/lang/IndexOutOfBoundsException") (o_save (nI j) h) (fun E z => Or.inl (th_save X (nI j) E z))
  refine ⟨q.1, q.2, ?_⟩
  clear q
  have d1 : ¬ f_X6_requireSlot (nI j) = 0 := by
    rw [f_X6_requireSlot, if_neg (nI_pos (by omega)), if_pos (show nI j < (2 : Int32) from nI_lt (b := 2) hj (by omega))]
    decide
  have e : h_X6_save X (nI j) = .inr (sM (xN X), yS X (fun i => if i = j then xN X else vF (xS X) i, upd (vB (xS X)) j (vp_nar .boolean 1))) := by
    rw [h_X6_save, if_neg d1, nI_clamp (by omega), keep_n _ _ hj]
    rfl
  rw [e]
  refine ⟨hc.1, hc.2.1, fun i hi hb => ?_⟩
  show 2 ≤ nm (if i = j then xN X else vF (xS X) i)
  by_cases c : i = j
  · rw [if_pos c]
    exact hc.1
  · rw [if_neg c]
    have hb' : ¬ upd (vB (xS X)) j (vp_nar .boolean 1) i = 0 := hb
    rw [pk_un c] at hb'
    exact hc.2.2 i hi hb'
theorem aq_restore {X : Cx} {M : Mo} {j : Nat} (hj : j < 2) (h : RelX X M) (hc : Ch X) : pv (h_X6_restore X (nI j)) X = (rvE (cd "java/lang/IndexOutOfBoundsException") (cd "java/lang/IllegalStateException") (h_X7_restore M (nI j)), (pv (h_X6_restore X (nI j)) X).2) ∧ RelX (pv (h_X6_restore X (nI j)) X).2 (h_X7_restore M (nI j)).2 ∧ Ch (pv (h_X6_restore X (nI j)) X).2 := by
  have q := ok_pv (o_restore (nI j) h) (fun E z => th_restore X (nI j) E z)
  refine ⟨q.1, q.2, ?_⟩
  clear q
  have d1 : ¬ f_X6_requireSlot (nI j) = 0 := by
    rw [f_X6_requireSlot, if_neg (nI_pos (by omega)), if_pos (show nI j < (2 : Int32) from nI_lt (b := 2) hj (by omega))]
    decide
  have ef : f_X1_isFilled (xS X) (nI j) = 0 ↔ vB (xS X) j = 0 := by
    rw [f_X1_isFilled, if_neg (nI_pos (by omega)), if_neg (show ¬ (2 : Int32) ≤ nI j from fun z => by
      have := (nI_leI (a := 2) (by omega) (by omega)).mp z
      omega), nI_clamp (by omega), b01]
  by_cases c2 : f_X1_isFilled (xS X) (nI j) = 0
  · have e : h_X6_restore X (nI j) = .inl "java/lang/IllegalStateException" := by rw [h_X6_restore, if_neg d1, if_pos c2]
    rw [e]
    exact hc
  · have e : h_X6_restore X (nI j) = .inr (sM (vF (xS X) j), yH (yN X (vF (xS X) j)) (uK (xH X) 0)) := by
      rw [h_X6_restore, if_neg d1, if_neg c2, nI_clamp (by omega), h_X1_giveBack, if_neg (show ¬ f_X1_isFilled (vH (xS X, xN X)) (nI j) = 0 from c2)]
      rfl
    rw [e]
    refine ⟨hc.2.2 j hj (fun z => c2 (ef.mpr z)), fun i hi => ?_, hc.2.2⟩
    have hi' : i < 0 := hi
    omega
/-! both streets are alike -/
theorem yR_yR (X : Cx) (S T : St) : yR (yR X S) T = yR X T := rfl
theorem kp_sim_lp (w : Int32) : ∀ (n k : Nat) (x : Int64) (X : Cx), ∃ v T, lp_xSim w n k x X = .inr (v, yR X T) := by
  intro n
  induction n with
  | zero => intro k x X; exact ⟨_, xR X, rfl⟩
  | succ n ih =>
    intro k x X
    rw [lp_xSim]
    split
    · exact ⟨_, xR X, rfl⟩
    · obtain ⟨v, T, e⟩ := ih (k + 1) (f_X6_nextChance x) (yR X (h_X3_doTurn (xR X) ((jUshr (f_X6_nextChance x) 33).toInt32)))
      exact ⟨v, T, by rw [e, yR_yR]⟩
theorem kp_sim (X : Cx) (sd : Int64) (w : Int32) : ∃ T, (pv (h_X6_simulate X sd w) X).2 = yR X T := by
  rw [h_X6_simulate]
  split
  · exact ⟨xR X, rfl⟩
  · split
    · obtain ⟨v, T, e⟩ := kp_sim_lp w (w.toNatClampNeg + 1) 0 sd (yR X (xN X))
      rw [e]
      exact ⟨T, yR_yR _ _ _⟩
    · exact ⟨xR X, rfl⟩
theorem kp_jam (X : Cx) (len : Int32) (sd : Int64) : ∃ T, (pv (h_X6_jam X len sd) X).2 = yR X T := by
  rw [h_X6_jam]
  split
  · exact ⟨xR X, rfl⟩
  · apply Exists.intro
    show yR (yR (yR (yR X _) _) _) _ = _
    rw [yR_yR, yR_yR, yR_yR]
theorem al_sim {X : Cx} {M : Mo} (sd : Int64) (w : Int32) (h : RelX X M) : ∃ T, pv (h_X6_simulate X sd w) X = (rvE (cd "java/lang/IllegalArgumentException") (cd "java/lang/IllegalArgumentException") (h_X7_simulate M sd w), yR X T) := by
  obtain ⟨T, e⟩ := kp_sim X sd w
  exact ⟨T, by rw [← e]; exact (ok_pv (E2 := "java/lang/IllegalArgumentException") (o_simulate sd w h) (fun E z => Or.inl (th_simulate X sd w E z))).1⟩
theorem al_jam {X : Cx} {M : Mo} (len : Int32) (sd : Int64) (h : RelX X M) : ∃ T, pv (h_X6_jam X len sd) X = (rvE (cd "java/lang/IllegalArgumentException") (cd "java/lang/IllegalArgumentException") (h_X7_jam M len sd), yR X T) := by
  obtain ⟨T, e⟩ := kp_jam X len sd
  exact ⟨T, by rw [← e]; exact (ok_pv (E2 := "java/lang/IllegalArgumentException") (o_jam len sd h) (fun E z => Or.inl (th_jam X len sd E z))).1⟩
theorem al_at {X : Cx} {M : Mo} (x : Int32) (h : RelX X M) : pv (h_X6_at X x) X = (rvE (cd "java/lang/IndexOutOfBoundsException") (cd "java/lang/IndexOutOfBoundsException") (h_X7_at M x), X) := by
  have q := (ok_pv (E2 := "java/lang/IndexOutOfBoundsException") (o_at x h) (fun E z => Or.inl (th_at X x E z))).1
  have k : (pv (h_X6_at X x) X).2 = X := by
    rw [h_X6_at]
    by_cases q1 : (f_X6_requireCell x) = 0
    · rw [if_pos q1]
      rfl
    · rw [if_neg q1]
      rfl
  rw [k] at q
  exact q
theorem al_about {X : Cx} {M : Mo} (w : Int32) (h : RelX X M) : pv (h_X6_about X w) X = (rvE (cd "java/lang/IllegalArgumentException") (cd "java/lang/IllegalArgumentException") (h_X7_about M w), X) := by
  have q := (ok_pv (E2 := "java/lang/IllegalArgumentException") (o_about w h) (fun E z => Or.inl (th_about X w E z))).1
  have k : (pv (h_X6_about X w) X).2 = X := by
    rw [h_X6_about]
    by_cases q1 : w = 0
    · rw [if_pos q1]
      rfl
    · rw [if_neg q1]
      by_cases q2 : w = 1
      · rw [if_pos q2]
        rfl
      · rw [if_neg q2]
        by_cases q3 : w = 2
        · rw [if_pos q3]
          rfl
        · rw [if_neg q3]
          by_cases q4 : w = 3
          · rw [if_pos q4]
            rfl
          · rw [if_neg q4]
            by_cases q5 : w = 4
            · rw [if_pos q5]
              rfl
            · rw [if_neg q5]
              by_cases q6 : w = 5
              · rw [if_pos q6]
                rfl
              · rw [if_neg q6]
                by_cases q7 : w = 6
                · rw [if_pos q7]
                  rfl
                · rw [if_neg q7]
                  by_cases q8 : w = 7
                  · rw [if_pos q8]
                    rfl
                  · rw [if_neg q8]
                    by_cases q9 : w = 8
                    · rw [if_pos q9]
                      rfl
                    · rw [if_neg q9]
                      by_cases q10 : w = 9
                      · rw [if_pos q10]
                        rfl
                      · rw [if_neg q10]
                        by_cases q11 : w = 10
                        · rw [if_pos q11]
                          rfl
                        · rw [if_neg q11]
                          by_cases q12 : w = 11
                          · rw [if_pos q12]
                            rfl
                          · rw [if_neg q12]
                            rfl
  rw [k] at q
  exact q
theorem al_carOf {X : Cx} {M : Mo} (c w : Int32) (h : RelX X M) : pv (h_X6_carOf X c w) X = (rvE (cd "java/lang/IndexOutOfBoundsException") (cd "java/lang/IllegalArgumentException") (h_X7_carOf M c w), X) := by
  have q := (ok_pv (o_carOf c w h) (fun E z => th_carOf X c w E z)).1
  have k : (pv (h_X6_carOf X c w) X).2 = X := by
    rw [h_X6_carOf]
    by_cases q1 : (f_X6_requireCar X c) = 0
    · rw [if_pos q1]
      rfl
    · rw [if_neg q1]
      by_cases q2 : w = 0
      · rw [if_pos q2]
        rfl
      · rw [if_neg q2]
        by_cases q3 : w = 1
        · rw [if_pos q3]
          rfl
        · rw [if_neg q3]
          by_cases q4 : w = 2
          · rw [if_pos q4]
            rfl
          · rw [if_neg q4]
            by_cases q5 : w = 3
            · rw [if_pos q5]
              rfl
            · rw [if_neg q5]
              by_cases q6 : w = 4
              · rw [if_pos q6]
                rfl
              · rw [if_neg q6]
                by_cases q7 : w = 5
                · rw [if_pos q7]
                  rfl
                · rw [if_neg q7]
                  by_cases q8 : w = 6
                  · rw [if_pos q8]
                    by_cases q9 : (f_X4_isParked (xN X) c) = 0
                    · rw [if_pos q9]
                      rfl
                    · rw [if_neg q9]
                      rfl
                  · rw [if_neg q8]
                    rfl
  rw [k] at q
  exact q
theorem al_place {X : Cx} {M : Mo} (len : Int32) (h : RelX X M) : pv (h_X6_place X len) X = (rvE (cd "java/lang/IllegalArgumentException") (cd "java/lang/IllegalArgumentException") (h_X7_place M len), X) := by
  have q := (ok_pv (E2 := "java/lang/IllegalArgumentException") (o_place len h) (fun E z => Or.inl (th_place X len E z))).1
  have k : (pv (h_X6_place X len) X).2 = X := by
    rw [h_X6_place]
    by_cases q1 : (f_X6_requireLength len) = 0
    · rw [if_pos q1]
      rfl
    · rw [if_neg q1]
      rfl
  rw [k] at q
  exact q
/-! what one thing done answers, and the ghost behind it -/
def fact (M : Mo) (x : Nat) : Int32 × Mo :=
  if x % 16 < 4 then (rvE (cd "java/lang/IllegalArgumentException") (cd "java/lang/IllegalStateException") (h_X7_come M (nI (2 + x / 16 % 7)) (nI (1 + x / 16 / 7 % (if x / 16 % 3 = 0 then 99 else 20)))), (h_X7_come M (nI (2 + x / 16 % 7)) (nI (1 + x / 16 / 7 % (if x / 16 % 3 = 0 then 99 else 20)))).2) else
  if x % 16 < 6 then (rvE (cd "java/lang/IndexOutOfBoundsException") (cd "java/lang/IllegalStateException") (h_X7_hydrant M (nI (x / 16 % 80)) (if 0 < x / 16 / 80 % 3 then 1 else 0)), (h_X7_hydrant M (nI (x / 16 % 80)) (if 0 < x / 16 / 80 % 3 then 1 else 0)).2) else
  if x % 16 = 6 then (rvE (cd "java/lang/IndexOutOfBoundsException") (cd "java/lang/IllegalStateException") (h_X7_leave M (nI (x / 16 % gm (mN M)))), (h_X7_leave M (nI (x / 16 % gm (mN M)))).2) else
  if x % 16 = 7 then (rvE (cd "java/lang/IndexOutOfBoundsException") (cd "java/lang/IllegalStateException") (h_X7_tow M (nI (x / 16 % gm (mN M)))), (h_X7_tow M (nI (x / 16 % gm (mN M)))).2) else
  if x % 16 < 10 then (rvE (cd "java/lang/IndexOutOfBoundsException") (cd "java/lang/IllegalStateException") (h_X7_move M (nI (x / 16 % gm (mN M))) (nI (x / 16 / 40 % 80))), (h_X7_move M (nI (x / 16 % gm (mN M))) (nI (x / 16 / 40 % 80))).2) else
  if x % 16 = 10 then (rvE (cd "java/lang/IllegalArgumentException") (cd "java/lang/IllegalArgumentException") (h_X7_set M 0 (nI (x / 16 % 3))), (h_X7_set M 0 (nI (x / 16 % 3))).2) else
  if x % 16 = 11 then (if x / 16 % 2 = 0 then (rvE (cd "java/lang/IllegalArgumentException") (cd "java/lang/IllegalArgumentException") (h_X7_set M 1 (nI (x / 16 / 2 % 5))), (h_X7_set M 1 (nI (x / 16 / 2 % 5))).2) else (rvE (cd "java/lang/IllegalArgumentException") (cd "java/lang/IllegalArgumentException") (h_X7_set M 2 (nI (1 + x / 16 / 2 % 30))), (h_X7_set M 2 (nI (1 + x / 16 / 2 % 30))).2)) else
  if x % 16 = 12 then (if gm (mN M) < 3 then (-1, M) else (rvE (cd "java/lang/IllegalStateException") (cd "java/lang/IllegalStateException") (h_X7_undo M), (h_X7_undo M).2)) else
  if x % 16 = 13 then (if x / 16 % 2 = 0 then (rvE (cd "java/lang/IndexOutOfBoundsException") (cd "java/lang/IndexOutOfBoundsException") (h_X7_save M (nI (x / 16 / 2 % 2))), (h_X7_save M (nI (x / 16 / 2 % 2))).2) else (rvE (cd "java/lang/IndexOutOfBoundsException") (cd "java/lang/IllegalStateException") (h_X7_restore M (nI (x / 16 / 2 % 2))), (h_X7_restore M (nI (x / 16 / 2 % 2))).2)) else
  ((h_X7_minutesOn (mN M) (nI (1 + x / 16 % 9))).1, (h_X7_minutes M (nI (1 + x / 16 % 9))).2)
