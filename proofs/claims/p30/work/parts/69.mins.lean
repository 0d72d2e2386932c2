theorem goes_same (g : Rw) (c : Nat) (sta : Int32) (hx : px g c + pj g c ≤ 80) : (h_X7_goes g c sta).2 0 = g 0 := by
  rw [h_X7_goes]
  show h_X7_lay (h_X7_lay (h_X7_fill g (px g c) (pj g c) (-1)) c 3 (-1)) c 2 sta 0 = g 0
  rw [lay_lo _ _ (by omega), lay_lo _ _ (by omega), fill_lo _ _ _ _ (by omega)]
theorem isParked_n {g : Rw} (hi : RI g) {c : Nat} (hc : c < gm g) : f_X7_isParked g (nI c) = 0 ↔ ¬ f_X7_of g c 2 = 0 := by
  have hm := hi.m.2
  rw [f_X7_isParked, isCar_n hi hc, if_neg (by decide), nI_clamp (by omega)]
  by_cases z : f_X7_of g c 2 = 0
  · rw [if_pos z]; exact ⟨fun w => absurd w (by decide), fun w => absurd z w⟩
  · rw [if_neg z]; exact ⟨fun _ => z, fun _ => rfl⟩
/-- one parked car's minute -/
theorem leave_one {S : St} {g : Rw} (h : Rel S g) (hi : Inv g) {k : Nat} (hk : k < gm g) (hp : f_X7_of g k 2 = 0) :
    (0 < f_X4_minutesLeft (pK S (nI k) (f_X6_get 40 (sK S) (nI k) + 1)) (nI k) ↔ f_X7_of (h_X7_lay g k 4 (f_X7_of g k 4 + 1)) k 4 < f_X7_of (h_X7_lay g k 4 (f_X7_of g k 4 + 1)) k 1)
    ∧ Rel (pK S (nI k) (f_X6_get 40 (sK S) (nI k) + 1)) (h_X7_lay g k 4 (f_X7_of g k 4 + 1)) ∧ RI (h_X7_lay g k 4 (f_X7_of g k 4 + 1))
    ∧ (f_X7_of (h_X7_lay g k 4 (f_X7_of g k 4 + 1)) k 4 < f_X7_of (h_X7_lay g k 4 (f_X7_of g k 4 + 1)) k 1 → Inv (h_X7_lay g k 4 (f_X7_of g k 4 + 1))) := by
  have hm := hi.ri.m.2
  obtain ⟨⟨t, t1, t2, et, hu⟩, -, hs5, -, -, ⟨r9, r30, er, r1, r3⟩, -⟩ := hi.rk k hk
  obtain ⟨u, hu1, eu⟩ := hu hp
  have eK : f_X6_get 40 (sK S) (nI k) = f_X7_of g k 4 := by rw [get_n _ (by omega) (by omega), ← (h.2.2.1 k hk).2.2.2.2.1]
  have eY : sY S k = nI t := by rw [← (h.2.2.1 k hk).2.1, et]
  have e4 : f_X7_of (h_X7_lay g k 4 (f_X7_of g k 4 + 1)) k 4 = nI (u + 1) := by rw [of_lay_eq, eu, nI_1]
  have e1 : f_X7_of (h_X7_lay g k 4 (f_X7_of g k 4 + 1)) k 1 = nI t := by rw [of_lay_ne _ _ (by omega) (by omega) (Or.inr (by omega)), et]
  have rel := h.qK (c := k) (by omega) (f_X7_of g k 4 + 1)
  have ri : RI (h_X7_lay g k 4 (f_X7_of g k 4 + 1)) := RI_lay hi.ri (by omega) (by omega) (by omega) (by omega)
  rw [eK]
  refine ⟨?_, rel, ri, fun z => ?_⟩
  · rw [e4, e1, f_X4_minutesLeft, pK, put_n _ _ (show k < 40 by omega) (by omega)]
    show 0 < f_X6_get 40 (sY S) (nI k) - f_X6_get 40 (upd (sK S) k (f_X7_of g k 4 + 1)) (nI k) ↔ _
    rw [get_n _ (by omega) (by omega), get_n _ (by omega) (by omega), eY, pk_us, eu, nI_1, pk_sub (by omega), nI_ltI (by omega) (by omega)]
    rw [show (0 : Int32) = nI 0 from rfl, nI_ltI (by omega) (by omega)]
    omega
  · rw [e4, e1, nI_ltI (by omega) (by omega)] at z
    refine hi.same (lay_lo _ _ (by omega)) ri (fun c hc => ?_) (fun c _ => ⟨of_lay_ne _ _ (by omega) (by omega) (Or.inr (by omega)), of_lay_ne _ _ (by omega) (by omega) (Or.inr (by omega)), of_lay_ne _ _ (by omega) (by omega) (Or.inr (by omega))⟩) (fun y hy => lay_lo _ _ (by omega)) (hi.nu.c (lay_lo _ _ (by omega)) (lay_lo _ _ (by omega)))
    by_cases e : c = k
    · subst e
      have q2 : f_X7_of (h_X7_lay g c 4 (f_X7_of g c 4 + 1)) c 2 = 0 := (of_lay_ne _ _ (by omega) (by omega) (Or.inr (by omega))).trans hp
      refine ⟨⟨t, t1, t2, e1, fun _ => ⟨u + 1, z, e4⟩⟩, fun w => ?_, ⟨0, by omega, q2⟩, fun w => absurd q2 w, ⟨t, u + 1, by omega, t2, e1, e4⟩, ⟨r9, r30, (of_lay_ne _ _ (by omega) (by omega) (Or.inr (by omega))).trans er, fun w => ?_, fun w => ?_⟩, fun w => ?_⟩
      all_goals rw [q2] at w; exact absurd w (by decide)
    · exact RKc_c (hi.rk c hc) (of_lay_ne _ _ (by omega) (by omega) (Or.inr (by omega))) (of_lay_ne _ _ (by omega) (by omega) (Or.inr (by omega))) (of_lay_ne _ _ (by omega) (by omega) (Or.inl (fun w => e w.symm))) (of_lay_ne _ _ (by omega) (by omega) (Or.inr (by omega))) (of_lay_ne _ _ (by omega) (by omega) (Or.inr (by omega)))
theorem leave_lp (g : Rw) : ∀ (n k : Nat) (S2 : St) (g2 : Rw), Rel S2 g2 → Inv g2 → k ≤ gm g2 → gm g2 < k + n → ∃ g3, lp_rLeave g n k g2 = lp_rRound g ((g 0).toNatClampNeg + 1) 0 0 g3 ∧ Rel (lp_leave n k S2) g3 ∧ Inv g3 ∧ gm g3 = gm g2 := by
  intro n
  induction n with
  | zero => intro k S2 g2 h hi h1 h2; omega
  | succ n ih =>
    intro k S2 g2 h hi h1 h2
    obtain ⟨em, hm⟩ := hi.ri.m
    rw [lp_rLeave, lp_leave, ← h.1.1]
    by_cases c1 : g2 0 ≤ nI k
    · rw [if_pos c1, if_pos c1]
      exact ⟨g2, rfl, h, hi, rfl⟩
    · have hk : k < gm g2 := by
        rw [em, nI_leI (by omega) (by omega)] at c1
        omega
      rw [if_neg c1, if_neg c1, parked_eq h hi.ri]
      by_cases c2 : f_X7_of g2 k 2 = 0
      · rw [if_pos c2, if_neg (fun z => (isParked_n hi.ri hk).mp z c2)]
        obtain ⟨q1, q2, q3, q4⟩ := leave_one h hi hk c2
        have e2 : f_X7_of (h_X7_lay g2 k 4 (f_X7_of g2 k 4 + 1)) k 2 = 0 := by rw [of_lay_ne _ _ (by omega) (by omega) (Or.inr (by omega)), c2]
        have eg : gm (h_X7_lay g2 k 4 (f_X7_of g2 k 4 + 1)) = gm g2 := gm_cong (lay_lo _ _ (by omega))
        by_cases c3 : f_X7_of (h_X7_lay g2 k 4 (f_X7_of g2 k 4 + 1)) k 4 < f_X7_of (h_X7_lay g2 k 4 (f_X7_of g2 k 4 + 1)) k 1
        · rw [if_pos c3, if_pos (q1.mpr c3)]
          obtain ⟨g3, a, b, c, d⟩ := ih (k + 1) _ _ q2 (q4 c3) (by omega) (by omega)
          exact ⟨g3, a, b, c, d.trans eg⟩
        · rw [if_neg c3, if_neg (fun z => c3 (q1.mp z))]
          have r := (depart_eq q2 q3 (c := k) (by omega) e2 2).2
          have hv9 : ∃ t u, u ≤ t ∧ t ≤ 99 ∧ f_X7_of (h_X7_lay g2 k 4 (f_X7_of g2 k 4 + 1)) k 1 = nI t ∧ f_X7_of (h_X7_lay g2 k 4 (f_X7_of g2 k 4 + 1)) k 4 = nI u := by
            obtain ⟨⟨t, t1, t2, et, hu⟩, -⟩ := hi.rk k hk
            obtain ⟨u, hu1, eu⟩ := hu c2
            exact ⟨t, u + 1, by omega, t2, by rw [of_lay_ne _ _ (by omega) (by omega) (Or.inr (by omega)), et], by rw [of_lay_eq, eu, nI_1]⟩
          have i := Inv.goes hi (c := k) (sta := 2) (Or.inr rfl : h_X7_lay g2 k 4 (f_X7_of g2 k 4 + 1) = g2 ∨ h_X7_lay g2 k 4 (f_X7_of g2 k 4 + 1) = h_X7_lay g2 k 4 (f_X7_of g2 k 4 + 1)) hk c2 (by decide) (by decide) hv9 (Or.inl rfl)
          have eg2 : gm (h_X7_goes (h_X7_lay g2 k 4 (f_X7_of g2 k 4 + 1)) k 2).2 = gm g2 := (gm_cong (goes_same _ _ _ (q3.X (c := k) (by omega) e2).2.2)).trans eg
          obtain ⟨g3, a, b, c, d⟩ := ih (k + 1) _ _ r i (by omega) (by omega)
          exact ⟨g3, a, b, c, d.trans eg2⟩
      · rw [if_neg c2, if_pos ((isParked_n hi.ri hk).mpr c2)]
        exact ih (k + 1) S2 g2 h hi (by omega) (by omega)
theorem round_lp (g : Rw) : ∀ (n k : Nat) (acc : Int32) (S2 : St) (g2 : Rw), Rel S2 g2 → Inv g2 → k ≤ gm g2 → gm g2 < k + n → (lp_round n k acc S2).1 = (lp_rRound g n acc k g2).1 ∧ Rel (lp_round n k acc S2).2 (lp_rRound g n acc k g2).2 ∧ Inv (lp_rRound g n acc k g2).2 ∧ gm (lp_rRound g n acc k g2).2 = gm g2 := by
  intro n
  induction n with
  | zero => intro k acc S2 g2 h hi h1 h2; omega
  | succ n ih =>
    intro k acc S2 g2 h hi h1 h2
    obtain ⟨em, hm⟩ := hi.ri.m
    rw [lp_rRound, lp_round, ← h.1.1]
    by_cases c1 : g2 0 ≤ nI k
    · rw [if_pos c1, if_pos c1]
      exact ⟨rfl, h, hi, rfl⟩
    · have hk : k < gm g2 := by
        rw [em, nI_leI (by omega) (by omega)] at c1
        omega
      have eT : f_X6_get 40 (sT S2) (nI k) = f_X7_of g2 k 2 := by rw [get_n _ (by omega) (by omega), ← (h.2.2.1 k hk).2.2.1]
      rw [if_neg c1, if_neg c1, eT]
      by_cases c2 : f_X7_of g2 k 2 = 1
      · rw [if_pos c2, if_pos c2]
        obtain ⟨p1, p2⟩ := parks_eq h hi.ri hk
        have pi := hi.parks hk c2
        have eg : gm (h_X7_parks g2 k).2 = gm g2 := gm_cong (parks_lo _ _ (by omega))
        rw [p1]
        by_cases c3 : (h_X7_parks g2 k).1 = 0
        · rw [if_pos c3, if_pos c3]
          have hpk : f_X7_of (h_X7_parks g2 k).2 k 2 = 1 := by
            rw [h_X7_parks] at c3 ⊢
            by_cases a : (h_X7_placeFor g2 (nI (pj g2 k))).1 = -1
            · rw [if_pos a, if_pos a, of_place]; exact c2
            · rw [if_neg a, if_neg a] at c3; exact absurd (show (1 : Int32) = 0 from c3) (by decide)
          generalize (h_X7_parks g2 k).2 = g4 at p2 pi eg hpk ⊢
          generalize (h_X4_tryToPark S2 (nI k)).2 = S4 at p2 ⊢
          have eR : f_X6_get 40 (sR S4) (nI k) = f_X7_of g4 k 5 := by rw [get_n _ (by omega) (by omega), ← (p2.2.2.1 k (by omega)).2.2.2.2.2]
          have r5 := p2.qR (c := k) (by omega) (f_X7_of g4 k 5 + 1)
          have e2 : f_X7_of (h_X7_lay g4 k 5 (f_X7_of g4 k 5 + 1)) k 2 = 1 := by rw [of_lay_ne _ _ (by omega) (by omega) (Or.inr (by omega)), hpk]
          have eE : sE (pR S4 (nI k) (f_X7_of g4 k 5 + 1)) = (h_X7_lay g4 k 5 (f_X7_of g4 k 5 + 1)) 4 := r5.1.2.2.2.2.1.symm
          obtain ⟨⟨tt, tt1, tt2, ett, -⟩, ek0, -, en3, eu5, ⟨r9, r30, er, r1, -⟩, -⟩ := pi.rk k (by omega)
          have r29 := r1 hpk
          have q5 : f_X7_of (h_X7_lay g4 k 5 (f_X7_of g4 k 5 + 1)) k 5 = nI (r9 + 1) := by rw [of_lay_eq, er, nI_1]
          have o5 : ∀ d w, w < 6 → w ≠ 5 → f_X7_of (h_X7_lay g4 k 5 (f_X7_of g4 k 5 + 1)) d w = f_X7_of g4 d w := fun d w hw h5 => of_lay_ne _ _ (by omega) hw (Or.inr (fun z => h5 z.symm))
          have ri5 : RI (h_X7_lay g4 k 5 (f_X7_of g4 k 5 + 1)) := RI_lay pi.ri (by omega) (by omega) (by omega) (by omega)
          have eg5 : gm (h_X7_lay g4 k 5 (f_X7_of g4 k 5 + 1)) = gm g2 := (gm_cong (lay_lo _ _ (by omega))).trans eg
          rw [h_X4_goRoundOnce, eR, eE, of_lay_eq]
          by_cases c4 : f_X7_of g4 k 5 + 1 < (h_X7_lay g4 k 5 (f_X7_of g4 k 5 + 1)) 4
          · rw [if_pos c4, if_pos c4, lay_self e2]
            have i5 : Inv (h_X7_lay g4 k 5 (f_X7_of g4 k 5 + 1)) := by
              obtain ⟨-, e, e30, ee⟩ := pi.nu
              have e4' : (h_X7_lay g4 k 5 (f_X7_of g4 k 5 + 1)) 4 = nI e := (lay_lo _ _ (by omega)).trans ee
              rw [e4', er, nI_1, nI_ltI (by omega) (by omega)] at c4
              refine pi.same (lay_lo _ _ (by omega)) ri5 (fun c hc => ?_) (fun c _ => ⟨o5 c 0 (by omega) (by omega), o5 c 2 (by omega) (by omega), o5 c 3 (by omega) (by omega)⟩) (fun y hy => lay_lo _ _ (by omega)) (pi.nu.c (lay_lo _ _ (by omega)) (lay_lo _ _ (by omega)))
              by_cases ec : c = k
              · subst ec
                refine ⟨⟨tt, tt1, tt2, (o5 c 1 (by omega) (by omega)).trans ett, fun z => ?_⟩, fun _ => (o5 c 4 (by omega) (by omega)).trans (ek0 hpk), ⟨1, by omega, e2⟩, fun _ => (o5 c 3 (by omega) (by omega)).trans (en3 (by rw [hpk]; decide)), by rw [o5 c 1 (by omega) (by omega), o5 c 4 (by omega) (by omega)]; exact eu5, ⟨r9 + 1, by omega, q5, fun _ => by omega, fun _ => by omega⟩, fun z => ?_⟩
                all_goals rw [e2] at z; exact absurd z (by decide)
              · exact RKc_c (pi.rk c hc) (o5 c 1 (by omega) (by omega)) (o5 c 2 (by omega) (by omega)) (o5 c 4 (by omega) (by omega)) (o5 c 3 (by omega) (by omega)) (of_lay_ne _ _ (by omega) (by omega) (Or.inl (fun w => ec w.symm)))
            obtain ⟨a, b, c, d⟩ := ih (k + 1) acc _ _ r5 i5 (by omega) (by omega)
            exact ⟨a, b, c, d.trans eg5⟩
          · rw [if_neg c4, if_neg c4]
            have r6 := r5.qT (c := k) (by omega) 3
            have i6 : Inv (h_X7_lay (h_X7_lay g4 k 5 (f_X7_of g4 k 5 + 1)) k 2 3) := by
              have o6 : ∀ d w, w < 6 → (d ≠ k ∨ (w ≠ 5 ∧ w ≠ 2)) → f_X7_of (h_X7_lay (h_X7_lay g4 k 5 (f_X7_of g4 k 5 + 1)) k 2 3) d w = f_X7_of g4 d w := fun d w hw z => by
                rw [of_lay_ne _ _ (by omega) hw (by omega), of_lay_ne _ _ (by omega) hw (by omega)]
              have q2 : f_X7_of (h_X7_lay (h_X7_lay g4 k 5 (f_X7_of g4 k 5 + 1)) k 2 3) k 2 = 3 := of_lay_eq ..
              refine pi.one k ((lay_lo _ _ (by omega)).trans (lay_lo _ _ (by omega))) (RI_lay2 ri5 (by decide)) (fun d w hd hw => o6 d w hw (Or.inl hd)) (fun hk5 => ?_) (fun y hy => Or.inl ⟨(lay_lo _ _ (by omega)).trans (lay_lo _ _ (by omega)), fun _ z => ?_⟩) (fun d hd hdm hq y hr => ?_) (fun _ z => ?_) ((lay_lo _ _ (by omega)).trans (lay_lo _ _ (by omega))) ((lay_lo _ _ (by omega)).trans (lay_lo _ _ (by omega)))
              · refine ⟨⟨tt, tt1, tt2, (o6 k 1 (by omega) (Or.inr (by omega))).trans ett, fun z => ?_⟩, fun z => ?_, ⟨3, by omega, q2⟩, fun _ => (o6 k 3 (by omega) (Or.inr (by omega))).trans (en3 (by rw [hpk]; decide)), by rw [o6 k 1 (by omega) (Or.inr (by omega)), o6 k 4 (by omega) (Or.inr (by omega))]; exact eu5, ⟨r9 + 1, by omega, (of_lay_ne _ _ (by omega) (by omega) (Or.inr (by omega))).trans q5, fun z => ?_, fun _ => by omega⟩, fun _ => (o6 k 4 (by omega) (Or.inr (by omega))).trans (ek0 hpk)⟩
                all_goals rw [q2] at z; exact absurd z (by decide)
              · rw [hpk] at z; exact absurd z (by decide)
              · have := pi.ri.X hdm hq
                have := hr.2
                exact (lay_lo _ _ (by omega)).trans (lay_lo _ _ (by omega))
              · rw [q2] at z; exact absurd z (by decide)
            have eg6 : gm (h_X7_lay (h_X7_lay g4 k 5 (f_X7_of g4 k 5 + 1)) k 2 3) = gm g2 := (gm_cong (lay_lo _ _ (by omega))).trans eg5
            obtain ⟨a, b, c, d⟩ := ih (k + 1) acc _ _ r6 i6 (by omega) (by omega)
            exact ⟨a, b, c, d.trans eg6⟩
        · rw [if_neg c3, if_neg c3]
          obtain ⟨a, b, c, d⟩ := ih (k + 1) (acc + 1) _ _ p2 pi (by omega) (by omega)
          exact ⟨a, b, c, d.trans eg⟩
      · rw [if_neg c2, if_neg c2]
        exact ih (k + 1) acc S2 g2 h hi (by omega) (by omega)
theorem minute_all {S : St} {g : Rw} (h : Rel S g) (hi : Inv g) : (h_X4_letCarsGoRound (h_X4_letParkedCarsLeave (wM S (sM S + 1)))).1 = (h_X7_minute g).1 ∧ Rel (h_X4_letCarsGoRound (h_X4_letParkedCarsLeave (wM S (sM S + 1)))).2 (h_X7_minute g).2 ∧ Inv (h_X7_minute g).2 ∧ gm (h_X7_minute g).2 = gm g := by
  obtain ⟨em, hm⟩ := hi.ri.m
  have e0 : upd g 1 (g 1 + 1) 0 = g 0 := pk_un (by omega)
  have r : Rel (wM S (sM S + 1)) (upd g 1 (g 1 + 1)) := by
    rw [h.1.2.1]
    exact h.num (i := 1) (by omega) (by omega) ⟨rfl, rfl, rfl, rfl, rfl, rfl, rfl, rfl, rfl, rfl⟩ rfl rfl rfl rfl
  have i : Inv (upd g 1 (g 1 + 1)) := hi.nums (RI_same hi.ri e0 (pk_un (by omega)) (fun c _ q => RC_same q (of_upd _ _ (by omega)) (of_upd _ _ (by omega)) (of_upd _ _ (by omega)))) e0 (fun i hi => pk_un (by omega)) (hi.nu.c (pk_un (by omega)) (pk_un (by omega)))
  have eg : gm (upd g 1 (g 1 + 1)) = gm g := gm_cong e0
  have eN : (sN S).toNatClampNeg + 1 = gm g + 1 := by rw [← h.1.1, em, nI_clamp (by omega)]
  have eG : (g 0).toNatClampNeg + 1 = gm g + 1 := rfl
  obtain ⟨g3, a, b, c, d⟩ := leave_lp g (gm g + 1) 0 _ _ r i (Nat.zero_le _) (by omega)
  rw [h_X4_letParkedCarsLeave, show sN (wM S (sM S + 1)) = sN S from rfl, eN, h_X7_minute, eG, a, eG]
  have eN3 : (sN (lp_leave (gm g + 1) 0 (wM S (sM S + 1)))).toNatClampNeg + 1 = gm g + 1 := by rw [← b.1.1]; show gm g3 + 1 = gm g + 1; omega
  rw [h_X4_letCarsGoRound, eN3]
  obtain ⟨a2, b2, c2, d2⟩ := round_lp g (gm g + 1) 0 0 _ _ b c (Nat.zero_le _) (by omega)
  exact ⟨a2, b2, c2, by omega⟩
theorem mins_lp2 {m : Nat} (hm : m < 2 ^ 31) : ∀ (n k : Nat) (acc : Int32) (S : St) (g : Rw), Rel S g → Inv g → k ≤ m → m < k + n → (lp_pass (nI m) n k acc S).1 = (lp_rMin (nI m) n k acc g).1 ∧ Rel (lp_pass (nI m) n k acc S).2 (lp_rMin (nI m) n k acc g).2 ∧ Inv (lp_rMin (nI m) n k acc g).2 := by
  intro n
  induction n with
  | zero => intro k acc S g h hi h1 h2; omega
  | succ n ih =>
    intro k acc S g h hi h1 h2
    rw [lp_pass, lp_rMin]
    by_cases c1 : nI m ≤ nI k
    · rw [if_pos c1, if_pos c1]
      exact ⟨rfl, h, hi⟩
    · rw [if_neg c1, if_neg c1]
      obtain ⟨a, b, c, -⟩ := minute_all h hi
      rw [nI_leI (by omega) (by omega)] at c1
      rw [a]
      exact ih (k + 1) _ _ _ b c (by omega) (by omega)
theorem minutes_all {S : St} {g : Rw} (h : Rel S g) (hi : Inv g) {x : Int32} (hx : ¬ f_X6_isMinutes x = 0) : (h_X4_passMinutes S x).1 = (h_X7_minutesOn g x).1 ∧ Rel (h_X4_passMinutes S x).2 (h_X7_minutesOn g x).2 ∧ Inv (h_X7_minutesOn g x).2 := by
  have hx0 : ¬ x < 0 := fun z => hx (by
    rw [f_X6_isMinutes, if_pos]
    rw [Int32.lt_iff_toInt_lt, show (0 : Int32).toInt = 0 by decide] at z
    rw [Int32.lt_iff_toInt_lt, show (1 : Int32).toInt = 1 by decide]
    omega)
  obtain ⟨m, hm, rfl⟩ := nI_of hx0
  rw [h_X4_passMinutes, if_neg hx, h_X7_minutesOn, nI_clamp hm]
  exact mins_lp2 hm _ _ _ _ _ h hi (Nat.zero_le _) (by omega)
theorem Inv.come {g : Rw} (h : Inv g) (h40 : gm g < 40) {len stay : Int32} (hl : ∃ j, 2 ≤ j ∧ j ≤ 8 ∧ len = nI j) (hs : ∃ t, 1 ≤ t ∧ t ≤ 99 ∧ stay = nI t) : Inv (h_X7_comeOn g len stay).2 := by
  obtain ⟨e0, hm⟩ := h.ri.m
  have hn := RI_new h.ri h40 hl (stay := stay)
  have lo : ∀ i, 1 ≤ i → i < 87 → upd (cw6 g (gm g) len stay) 0 ((cw6 g (gm g) len stay) 0 + 1) i = g i := fun i h1 h2 => (pk_un (by omega)).trans (cw6_lo _ _ _ _ h2)
  have ne : ∀ c w, w < 6 → c ≠ gm g → f_X7_of (upd (cw6 g (gm g) len stay) 0 ((cw6 g (gm g) len stay) 0 + 1)) c w = f_X7_of g c w := fun c w hw hc => by rw [of_upd _ _ (by omega), cw6_ne _ _ _ hw hc]
  have s1 : f_X7_of (upd (cw6 g (gm g) len stay) 0 ((cw6 g (gm g) len stay) 0 + 1)) (gm g) 2 = 1 := by rw [of_upd _ _ (by omega), cw6_2]
  have i : Inv (upd (cw6 g (gm g) len stay) 0 ((cw6 g (gm g) len stay) 0 + 1)) := by
    refine ⟨hn.1, h.nu.c (lo 2 (by omega) (by omega)) (lo 4 (by omega) (by omega)), fun c hc => ?_, fun y hy => ?_, fun c hc hp y hr => ?_⟩
    · rw [hn.2] at hc
      by_cases e : c = gm g
      · subst e
        obtain ⟨t, t1, t2, rfl⟩ := hs
        have w1 : f_X7_of (upd (cw6 g (gm g) len (nI t)) 0 ((cw6 g (gm g) len (nI t)) 0 + 1)) (gm g) 1 = nI t := by
          rw [of_upd _ _ (by omega)]
          unfold cw6
          rw [of_lay_ne _ _ (by omega) (by omega) (Or.inr (by omega)), of_lay_ne _ _ (by omega) (by omega) (Or.inr (by omega)), of_lay_ne _ _ (by omega) (by omega) (Or.inr (by omega)), of_lay_ne _ _ (by omega) (by omega) (Or.inr (by omega)), of_lay_eq]
        have w4 : f_X7_of (upd (cw6 g (gm g) len (nI t)) 0 ((cw6 g (gm g) len (nI t)) 0 + 1)) (gm g) 4 = 0 := by
          rw [of_upd _ _ (by omega)]
          unfold cw6
          rw [of_lay_ne _ _ (by omega) (by omega) (Or.inr (by omega)), of_lay_eq]
        have w5 : f_X7_of (upd (cw6 g (gm g) len (nI t)) 0 ((cw6 g (gm g) len (nI t)) 0 + 1)) (gm g) 5 = 0 := by
          rw [of_upd _ _ (by omega)]
          unfold cw6
          rw [of_lay_eq]
        have w3 : f_X7_of (upd (cw6 g (gm g) len (nI t)) 0 ((cw6 g (gm g) len (nI t)) 0 + 1)) (gm g) 3 = -1 := by
          rw [of_upd _ _ (by omega)]
          unfold cw6
          rw [of_lay_ne _ _ (by omega) (by omega) (Or.inr (by omega)), of_lay_ne _ _ (by omega) (by omega) (Or.inr (by omega)), of_lay_eq]
        refine ⟨⟨t, t1, t2, w1, fun z => ?_⟩, fun _ => w4, ⟨1, by omega, s1⟩, fun _ => w3, ⟨t, 0, by omega, t2, w1, w4⟩, ⟨0, by omega, w5, fun _ => by omega, fun z => ?_⟩, fun _ => w4⟩
        all_goals rw [s1] at z; exact absurd z (by decide)
      · exact RKc_c (h.rk c (by omega)) (ne c 1 (by omega) e) (ne c 2 (by omega) e) (ne c 4 (by omega) e) (ne c 3 (by omega) e) (ne c 5 (by omega) e)
    · unfold CellOk
      rw [lo (7 + y) (by omega) (by omega), hn.2]
      rcases h.cc y hy with z | z | ⟨c, hc, hp, hv, hr⟩
      · exact Or.inl z
      · exact Or.inr (Or.inl z)
      · have e : c ≠ gm g := by omega
        exact Or.inr (Or.inr ⟨c, by omega, by rw [ne c 2 (by omega) e]; exact hp, hv, (inR_c (ne c 0 (by omega) e) (ne c 3 (by omega) e)).mpr hr⟩)
    · rw [hn.2] at hc
      by_cases e : c = gm g
      · subst e; rw [s1] at hp; exact absurd hp (by decide)
      · rw [ne c 2 (by omega) e] at hp
        have hr' := (inR_c (ne c 0 (by omega) e) (ne c 3 (by omega) e)).mp hr
        have := h.ri.X (c := c) (by omega) hp
        have := hr'.2
        rw [lo (7 + y) (by omega) (by omega)]
        exact h.pc c (by omega) hp y hr'
  rw [h_X7_comeOn]
  exact i.parks (c := gm g) (by rw [hn.2]; omega) s1
theorem stay_n {x : Int32} (h : ¬ f_X6_isStay x = 0) : ∃ t, 1 ≤ t ∧ t ≤ 99 ∧ x = nI t := by
  rw [f_X6_isStay] at h
  by_cases c1 : x < 1
  · rw [if_pos c1] at h; exact absurd rfl h
  · rw [if_neg c1] at h
    by_cases c2 : 99 < x
    · rw [if_pos c2] at h; exact absurd rfl h
    · rw [Int32.lt_iff_toInt_lt, show (1 : Int32).toInt = 1 by decide] at c1
      rw [Int32.lt_iff_toInt_lt, show (99 : Int32).toInt = 99 by decide] at c2
      have h0 : ¬ x < 0 := fun z => by
        rw [Int32.lt_iff_toInt_lt, show (0 : Int32).toInt = 0 by decide] at z
        omega
      obtain ⟨t, ht, rfl⟩ := nI_of h0
      rw [nI_toInt ht] at c1 c2
      exact ⟨t, by omega, by omega, rfl⟩
theorem come_all {S : St} {g : Rw} (h : Rel S g) (hi : Inv g) (h40 : gm g < 40) {len stay : Int32} (hlen : ¬ f_X7_isLength len = 0) (hst : ¬ f_X6_isStay stay = 0) : (h_X4_arrive S len stay).1 = (h_X7_comeOn g len stay).1 ∧ Rel (h_X4_arrive S len stay).2 (h_X7_comeOn g len stay).2 ∧ Inv (h_X7_comeOn g len stay).2 := by
  have q := come_eq h hi.ri h40 (len_2e hlen) (by rw [length_eq]; exact hlen) hst
  exact ⟨q.1, q.2, hi.come h40 (len_2e hlen) (stay_n hst)⟩
theorem goes_all {S : St} {g : Rw} (h : Rel S g) (hi : Inv g) {c : Nat} {sta : Int32} (hc : c < gm g) (hp : f_X7_of g c 2 = 0) (h0 : sta ≠ 0) (h1 : sta ≠ 1) (h24 : sta = 2 ∨ sta = 4) : (h_X4_depart S (nI c) sta).1 = (h_X7_goes g c sta).1 ∧ Rel (h_X4_depart S (nI c) sta).2 (h_X7_goes g c sta).2 ∧ Inv (h_X7_goes g c sta).2 := by
  have q := depart_eq h hi.ri hc hp sta
  exact ⟨q.1, q.2, Inv.goes (v := 0) hi (Or.inl rfl) hc hp h0 h1 (hi.rk c hc).2.2.2.2.1 h24⟩
