def abF (g : Rw) (x a : Int32) : Int32 :=
  if x = 0 then g 0 else if x = 6 then g 1 else if x = 7 then nI (f_X7_gaps g) else if x = 8 then nI (f_X7_longest g) else if x = 9 then f_X7_cellsWith g (-1) else if x = 10 then f_X7_cellsWith g 100 else if x = 11 then a else f_X7_many g (x - 1)
theorem about_lp {S : St} {M0 M2 : Mo} {g : Rw} (x : Int32) (hg : mN M2 = g) (h : Rel S g) (hi : RI g) : ∀ (n k : Nat) (acc : Int32), k ≤ gm g → gm g < k + n → lp_about M0 x n acc k M2 = (abF g x (lp_allPark S n k acc), M2) := by
  obtain ⟨em, hm⟩ := hi.m
  intro n
  induction n with
  | zero => intro k acc h1 h2; omega
  | succ n ih =>
    intro k acc h1 h2
    rw [lp_about, lp_allPark, hg, ← h.1.1]
    by_cases c1 : g 0 ≤ nI k
    · rw [if_pos c1, if_pos c1, abF]
      repeat' (first | rfl | split)
    · rw [if_neg c1, if_neg c1]
      rw [em, nI_leI (by omega) (by omega)] at c1
      rw [get_n _ (by omega) (by omega), ← (h.2.2.1 k (by omega)).2.2.2.2.1]
      exact ih (k + 1) _ (by omega) (by omega)
theorem o_about {X : Cx} {M : Mo} (w : Int32) (h : RelX X M) : OpOk RelX "java/lang/IllegalArgumentException" (h_X6_about X w) X (h_X7_about M w) := by
  have hm := h.nw.2.ri.m
  rw [h_X7_about]
  by_cases c1 : f_X7_in w.toInt64 0 11 = 0
  · rw [if_pos c1, refused_2]
    refine ok_l (E := "java/lang/IllegalArgumentException") ?_ 1 (if_pos rfl) rfl (h.oA 1)
    have hne : ∀ n, n ≤ 11 → ¬ w = nI n := by
      intro n hn z
      rw [z, in_eq (nI n) 0 11 (by decide) (by decide), if_neg (nI_pos (by omega)), if_neg (show ¬ (11 : Int32) < nI n from fun y => by
        have := (nI_ltI (a := 11) (by omega) (by omega)).mp y
        omega)] at c1
      exact absurd c1 (by decide)
    rw [h_X6_about, if_neg (show ¬ w = 0 from hne 0 (by omega)), if_neg (show ¬ w = 1 from hne 1 (by omega)), if_neg (show ¬ w = 2 from hne 2 (by omega)), if_neg (show ¬ w = 3 from hne 3 (by omega)), if_neg (show ¬ w = 4 from hne 4 (by omega)), if_neg (show ¬ w = 5 from hne 5 (by omega)), if_neg (show ¬ w = 6 from hne 6 (by omega)), if_neg (show ¬ w = 7 from hne 7 (by omega)), if_neg (show ¬ w = 8 from hne 8 (by omega)), if_neg (show ¬ w = 9 from hne 9 (by omega)), if_neg (show ¬ w = 10 from hne 10 (by omega)), if_neg (show ¬ w = 11 from hne 11 (by omega))]
  · rw [if_neg c1, refused_2, about_lp (S := xN X) w (show mN (oA M 0) = mN M from rfl) h.nw.1 h.nw.2.ri _ _ _ (Nat.zero_le _) (by omega)]
    have eA : lp_allPark (xN X) (gm (mN M) + 1) 0 0 = f_X4_allParkedMinutes (xN X) := by
      rw [f_X4_allParkedMinutes, ← h.nw.1.1.1]
      rfl
    rw [eA]
    have h2 := h.nw.1.1
    obtain ⟨j, hj, rfl⟩ := in_nat (a := 11) (by decide) (by decide) c1
    rcases (show j = 0 ∨ j = 1 ∨ j = 2 ∨ j = 3 ∨ j = 4 ∨ j = 5 ∨ j = 6 ∨ j = 7 ∨ j = 8 ∨ j = 9 ∨ j = 10 ∨ j = 11 by omega) with rfl | rfl | rfl | rfl | rfl | rfl | rfl | rfl | rfl | rfl | rfl | rfl
    · exact ok_r (r := sN (xN X)) (X1 := X) rfl rfl (h.oA 0) h2.1.symm
    · exact ok_r (r := f_X4_carsInState (xN X) 0) (X1 := X) rfl rfl (h.oA 0) (many_eq h.nw.1 h.nw.2.ri 0)
    · exact ok_r (r := f_X4_carsInState (xN X) 1) (X1 := X) rfl rfl (h.oA 0) (many_eq h.nw.1 h.nw.2.ri 1)
    · exact ok_r (r := f_X4_carsInState (xN X) 2) (X1 := X) rfl rfl (h.oA 0) (many_eq h.nw.1 h.nw.2.ri 2)
    · exact ok_r (r := f_X4_carsInState (xN X) 3) (X1 := X) rfl rfl (h.oA 0) (many_eq h.nw.1 h.nw.2.ri 3)
    · exact ok_r (r := f_X4_carsInState (xN X) 4) (X1 := X) rfl rfl (h.oA 0) (many_eq h.nw.1 h.nw.2.ri 4)
    · exact ok_r (r := sM (xN X)) (X1 := X) rfl rfl (h.oA 0) h2.2.1.symm
    · exact ok_r (r := f_X4_gapCount (xN X)) (X1 := X) rfl rfl (h.oA 0) (gapCount_eq h.nw.1.2.2.2)
    · exact ok_r (r := f_X4_longestGap (xN X)) (X1 := X) rfl rfl (h.oA 0) (longestGap_eq h.nw.1.2.2.2)
    · exact ok_r (r := f_X4_cellsWith (xN X) (-1)) (X1 := X) rfl rfl (h.oA 0) (with_eq h.nw.1 (-1))
    · exact ok_r (r := f_X4_cellsWith (xN X) 100) (X1 := X) rfl rfl (h.oA 0) (with_eq h.nw.1 100)
    · exact ok_r (r := f_X4_allParkedMinutes (xN X)) (X1 := X) rfl rfl (h.oA 0) rfl
theorem o_carOf {X : Cx} {M : Mo} (c w : Int32) (h : RelX X M) : OpOk RelX "java/lang/IndexOutOfBoundsException" (h_X6_carOf X c w) X (h_X7_carOf M c w) := by
  have hm := h.nw.2.ri.m
  rw [h_X7_carOf]
  by_cases c1 : f_X7_isCar (mN M) c = 0
  · rw [if_pos c1, refused_2]
    exact ok_l (E := "java/lang/IndexOutOfBoundsException") (by rw [h_X6_carOf, if_pos ((rq_car h c).mpr c1)]) 1 (if_pos rfl) rfl (h.oA 1)
  · have d1 : ¬ f_X6_requireCar X c = 0 := fun z => c1 ((rq_car h c).mp z)
    rw [if_neg c1]
    by_cases c2 : f_X7_in w.toInt64 0 6 = 0
    · rw [if_pos c2, refused_2]
      refine ok_l (E := "java/lang/IllegalArgumentException") ?_ 2 (if_neg (by decide)) rfl (h.oA 2)
      have hne : ∀ n, n ≤ 6 → ¬ w = nI n := by
        intro n hn z
        rw [z, in_eq (nI n) 0 6 (by decide) (by decide), if_neg (nI_pos (by omega)), if_neg (show ¬ (6 : Int32) < nI n from fun y => by
          have := (nI_ltI (a := 6) (by omega) (by omega)).mp y
          omega)] at c2
        exact absurd c2 (by decide)
      rw [h_X6_carOf, if_neg d1, if_neg (show ¬ w = 0 from hne 0 (by omega)), if_neg (show ¬ w = 1 from hne 1 (by omega)), if_neg (show ¬ w = 2 from hne 2 (by omega)), if_neg (show ¬ w = 3 from hne 3 (by omega)), if_neg (show ¬ w = 4 from hne 4 (by omega)), if_neg (show ¬ w = 5 from hne 5 (by omega)), if_neg (show ¬ w = 6 from hne 6 (by omega))]
    · rw [if_neg c2, refused_2]
      obtain ⟨k, hk, rfl⟩ := car_n hm.1 hm.2 c1
      obtain ⟨j, hj, rfl⟩ := in_nat (a := 6) (by decide) (by decide) c2
      obtain ⟨r0, r1, r2, r3, r4, r5⟩ := h.nw.1.2.2.1 k hk
      have g40 : ∀ F : Rw, f_X6_get 40 F (nI k) = F k := fun F => get_n F (by omega) (by omega)
      have ek : (nI k).toNatClampNeg = k := nI_clamp (by omega)
      rw [ek]
      by_cases c6 : j = 6
      · subst c6
        rw [if_pos (show (6 : Int32) ≤ nI 6 by decide)]
        have e0 : h_X6_carOf X (nI k) (nI 6) = if (f_X4_isParked (xN X) (nI k)) = 0 then .inr ((-1), X) else .inr (f_X4_minutesLeft (xN X) (nI k), X) := by
          rw [h_X6_carOf, if_neg d1]
          rfl
        rw [parked_eq h.nw.1 h.nw.2.ri] at e0
        by_cases c3 : f_X7_isParked (mN M) (nI k) = 0
        · rw [if_pos (show f_X7_isParked (mN (oA M 0)) (nI k) = 0 from c3)]
          rw [if_pos c3] at e0
          exact ok_r e0 rfl (h.oA 0) rfl
        · rw [if_neg (show ¬ f_X7_isParked (mN (oA M 0)) (nI k) = 0 from c3)]
          rw [if_neg c3] at e0
          refine ok_r e0 rfl (h.oA 0) ?_
          rw [f_X4_minutesLeft, g40, g40, ← r1, ← r4]
          rfl
      · rw [if_neg (show ¬ (6 : Int32) ≤ nI j from fun y => by
          have := (nI_leI (a := 6) (by omega) (by omega)).mp y
          omega), nI_clamp (show j < 2 ^ 31 by omega)]
        have e1 : h_X6_carOf X (nI k) (nI j) = .inr (f_X7_of (mN M) k j, X) := by
          rw [h_X6_carOf, if_neg d1, g40, g40, g40, g40, g40, g40, ← r0, ← r1, ← r2, ← r3, ← r4, ← r5]
          rcases (show j = 0 ∨ j = 1 ∨ j = 2 ∨ j = 3 ∨ j = 4 ∨ j = 5 by omega) with rfl | rfl | rfl | rfl | rfl | rfl <;> rfl
        exact ok_r e1 rfl (h.oA 0) rfl
theorem gapOf_st0 (g : Rw) (kk : Int32) : ∀ (n i k : Nat), k ≤ 80 → (k = 80 ∨ isSt g k) → lp_rGapOf g kk n i k ≤ 80 ∧ (lp_rGapOf g kk n i k = 80 ∨ isSt g (lp_rGapOf g kk n i k)) := by
  intro n
  induction n with
  | zero => intro i k hk hs; exact ⟨hk, hs⟩
  | succ n ih =>
    intro i k hk hs
    rw [lp_rGapOf]
    by_cases c1 : kk ≤ nI i
    · rw [if_pos c1]; exact ⟨hk, hs⟩
    · rw [if_neg c1]
      by_cases c2 : (80 : Int32) ≤ nI k
      · rw [if_pos c2]; exact ⟨hk, hs⟩
      · rw [if_neg c2]
        rcases hs with rfl | hs
        · exact absurd p80 c2
        · obtain ⟨u1, u2, u3⟩ := next_up hs
          exact ih _ _ u2 u3
theorem gapOf_st (g : Rw) (kk : Int32) : f_X7_gapOf g kk ≤ 80 ∧ (f_X7_gapOf g kk = 80 ∨ isSt g (f_X7_gapOf g kk)) := gapOf_st0 g kk _ _ _ first_up.1 first_up.2
theorem o_gap {X : Cx} {M : Mo} (k w : Int32) (h : RelX X M) : OpOk RelX "java/lang/IndexOutOfBoundsException" (h_X6_gap X k w) X (h_X7_gap M k w) := by
  rw [h_X7_gap]
  by_cases c0 : (0 : Int32) ≤ k
  · rw [if_pos c0]
    obtain ⟨K, hK, rfl⟩ := nI_of (Int32.not_lt.mpr c0)
    obtain ⟨q1, q2⟩ := gapOf_st (mN M) (nI K)
    have eg := gapStart_eq hK h.nw.1.2.2.2
    by_cases c1 : f_X7_gapOf (mN M) (nI K) = 80
    · rw [if_pos (by rw [c1]; rfl), refused_2]
      rw [if_pos c1] at eg
      exact ok_l (E := "java/lang/IndexOutOfBoundsException") (by rw [h_X6_gap, eg, if_pos rfl]) 1 (if_pos rfl) rfl (h.oA 1)
    · rw [if_neg c1] at eg
      have hst := q2.resolve_left c1
      rw [if_neg (show ¬ nI (f_X7_gapOf (mN M) (nI K)) = 80 from fun z => c1 (nI_inj (b := 80) (by omega) (by omega) z))]
      have d1 : ¬ nI (f_X7_gapOf (mN M) (nI K)) = -1 := nI_m1 (by omega)
      by_cases c2 : f_X7_in w.toInt64 0 1 = 0
      · rw [if_pos c2, refused_2]
        exact ok_l (E := "java/lang/IllegalArgumentException") (by rw [h_X6_gap, eg, if_neg d1, if_pos ((rq_01 w).mpr c2)]) 2 (if_neg (by decide)) rfl (h.oA 2)
      · rw [if_neg c2, refused_2]
        have d2 : ¬ f_X6_requireZeroOrOne w = 0 := fun z => c2 ((rq_01 w).mp z)
        by_cases c3 : w = 0
        · rw [if_pos c3]
          exact ok_r (r := nI (f_X7_gapOf (mN M) (nI K))) (X1 := X) (by rw [h_X6_gap, eg, if_neg d1, if_neg d2, if_pos c3]) rfl (h.oA 0) rfl
        · rw [if_neg c3]
          refine ok_r (r := f_X6_get 80 (sG (xN X)) (nI (f_X7_gapOf (mN M) (nI K)))) (X1 := X) (by rw [h_X6_gap, eg, if_neg d1, if_neg d2, if_neg c3]) rfl (h.oA 0) ?_
          rw [get_n _ hst.1 (by omega)]
          exact (h.nw.1.2.2.2.at hst).1
  · rw [if_neg c0, if_pos rfl, refused_2]
    exact ok_l (E := "java/lang/IndexOutOfBoundsException") (by rw [h_X6_gap, gapStart_neg (Int32.not_le.mp c0), if_pos rfl]) 1 (if_pos rfl) rfl (h.oA 1)
theorem keep_n (D : Sl) (S : St) {j : Nat} (hj : j < 2) : h_X1_keep (D, S) j = ((fun i => if i = j then S else vF D i, upd (vB D) j (vp_nar .boolean 1)), S) := by
  rw [h_X1_keep, if_neg (nI_pos (by omega)), if_neg (show ¬ (2 : Int32) ≤ nI j from fun z => by
    have := (nI_leI (a := 2) (by omega) (by omega)).mp z
    omega), nI_clamp (by omega)]
  rfl
set_option maxRecDepth 100000 in
theorem save_cp {X : Cx} {M : Mo} (h : RelX X M) {j : Nat} (hj : j < 2) (b : Int32) : RelX (yS X (fun i => if i = j then xN X else vF (xS X) i, upd (vB (xS X)) j b)) (oI (oK (oA M 0) (h_X7_copyState (mN M) (mK M) 0 (327 * j))) (upd (mI M) j b)) := by
  refine ⟨h.tz, h.t120, h.tl, h.nw, h.ho, h.hk, h.hc, h.hr, fun i hi => ?_⟩
  obtain ⟨s1, s2⟩ := h.sl i hi
  show upd (vB (xS X)) j b i = upd (mI M) j b i ∧ (¬ upd (mI M) j b i = 0 → RS (if i = j then xN X else vF (xS X) i) (fun k => h_X7_copyState (mN M) (mK M) 0 (327 * j) (327 * i + k)))
  by_cases e : i = j
  · subst e
    rw [pk_us, pk_us, if_pos rfl]
    refine ⟨rfl, fun _ => h.nw.cong fun k hk => ?_⟩
    rw [cp_at, if_pos (by omega)]
    congr 1
    omega
  · rw [pk_un e, pk_un e, if_neg e]
    refine ⟨s1, fun z => (s2 z).cong fun k hk => ?_⟩
    rw [cp_at, if_neg (by omega)]
set_option maxRecDepth 100000 in
theorem o_save {X : Cx} {M : Mo} (x : Int32) (h : RelX X M) : OpOk RelX "java/lang/IndexOutOfBoundsException" (h_X6_save X x) X (h_X7_save M x) := by
  rw [h_X7_save]
  by_cases c1 : f_X7_in x.toInt64 0 1 = 0
  · rw [if_pos c1, refused_2]
    exact ok_l (E := "java/lang/IndexOutOfBoundsException") (by rw [h_X6_save, if_pos ((rq_slot x).mpr c1)]) 1 (if_pos rfl) rfl (h.oA 1)
  · have d1 : ¬ f_X6_requireSlot x = 0 := fun z => c1 ((rq_slot x).mp z)
    rw [if_neg c1, refused_2]
    have hx : ∃ j, j < 2 ∧ x = nI j ∧ (327 * x).toNatClampNeg = 327 * j ∧ x.toNatClampNeg = j := by
      rcases slot_lt c1 with z | z
      · exact ⟨0, by omega, z, by rw [z]; decide, by rw [z]; decide⟩
      · exact ⟨1, by omega, z, by rw [z]; decide, by rw [z]; decide⟩
    obtain ⟨j, hj, ej, e3, e4⟩ := hx
    rw [e3, e4]
    have e : h_X6_save X x = .inr (sM (xN X), yS X (fun i => if i = j then xN X else vF (xS X) i, upd (vB (xS X)) j (vp_nar .boolean 1))) := by
      rw [h_X6_save, if_neg d1, e4, keep_n _ _ hj]
      rfl
    exact ok_r e rfl (save_cp h hj _) h.nw.1.1.2.1.symm
set_option maxRecDepth 100000 in
theorem o_restore {X : Cx} {M : Mo} (x : Int32) (h : RelX X M) : OpOk RelX "java/lang/IndexOutOfBoundsException" (h_X6_restore X x) X (h_X7_restore M x) := by
  rw [h_X7_restore]
  by_cases c1 : f_X7_in x.toInt64 0 1 = 0
  · rw [if_pos c1, refused_2]
    exact ok_l (E := "java/lang/IndexOutOfBoundsException") (by rw [h_X6_restore, if_pos ((rq_slot x).mpr c1)]) 1 (if_pos rfl) rfl (h.oA 1)
  · have d1 : ¬ f_X6_requireSlot x = 0 := fun z => c1 ((rq_slot x).mp z)
    rw [if_neg c1]
    have hx : ∃ j, j < 2 ∧ x = nI j ∧ (327 * x).toNatClampNeg = 327 * j ∧ x.toNatClampNeg = j := by
      rcases slot_lt c1 with z | z
      · exact ⟨0, by omega, z, by rw [z]; decide, by rw [z]; decide⟩
      · exact ⟨1, by omega, z, by rw [z]; decide, by rw [z]; decide⟩
    obtain ⟨j, hj, ej, e3, e4⟩ := hx
    rw [e3, e4]
    obtain ⟨s1, s2⟩ := h.sl j hj
    have ef : f_X1_isFilled (xS X) x = 0 ↔ mI M j = 0 := by
      rw [f_X1_isFilled, ej, if_neg (nI_pos (by omega)), if_neg (show ¬ (2 : Int32) ≤ nI j from fun z => by
        have := (nI_leI (a := 2) (by omega) (by omega)).mp z
        omega), nI_clamp (by omega), s1, b01]
    by_cases c2 : mI M j = 0
    · rw [if_pos c2, refused_2]
      exact ok_l (E := "java/lang/IllegalStateException") (by rw [h_X6_restore, if_neg d1, if_pos (ef.mpr c2)]) 2 (if_neg (by decide)) rfl (h.oA 2)
    · rw [if_neg c2, refused_2]
      have nf : ¬ f_X1_isFilled (xS X) x = 0 := fun z => c2 (ef.mp z)
      have e : h_X6_restore X x = .inr (sM (vF (xS X) j), yH (yN X (vF (xS X) j)) (uK (xH X) 0)) := by
        rw [h_X6_restore, if_neg d1, if_neg nf, e4, h_X1_giveBack, if_neg (show ¬ f_X1_isFilled (vH (xS X, xN X)) (nI j) = 0 by rw [← ej]; exact nf)]
        rfl
      have r : RS (vF (xS X) j) (h_X7_copyState (mK M) (mN M) (327 * j) 0) := (s2 c2).cong fun i hi => by
        rw [cp_at, if_pos (by omega)]
        congr 1
      refine ok_r e rfl ?_ r.1.1.2.1.symm
      have hn := (h.oA 0).now r
      exact ⟨hn.tz, hn.t120, hn.tl, hn.nw, hn.ho, show 0 ≤ 14 by omega, rfl, fun i hi => by have hi' : i < 0 := hi; omega, hn.sl⟩
