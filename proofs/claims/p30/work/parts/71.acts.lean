def OpOk (P : Cx → Mo → Prop) (E1 : String) (h : String ⊕ (Int32 × Cx)) (X : Cx) (q : Int32 × Mo) : Prop := (∃ X1, h = .inr (q.1, X1) ∧ mA q.2 = 0 ∧ P X1 q.2) ∨ ∃ E, h = .inl E ∧ mA q.2 = (if E = E1 then 1 else 2) ∧ P X q.2
theorem ok_r {P : Cx → Mo → Prop} {E1 : String} {h : String ⊕ (Int32 × Cx)} {X X1 : Cx} {r : Int32} {q : Int32 × Mo} (e : h = .inr (r, X1)) (ha : mA q.2 = 0) (hp : P X1 q.2) (hr : r = q.1) : OpOk P E1 h X q := Or.inl ⟨X1, by rw [e, hr], ha, hp⟩
theorem ok_l {P : Cx → Mo → Prop} {E1 E : String} {h : String ⊕ (Int32 × Cx)} {X : Cx} {q : Int32 × Mo} (e : h = .inl E) (w : Int32) (ew : (if E = E1 then (1 : Int32) else 2) = w) (ha : mA q.2 = w) (hp : P X q.2) : OpOk P E1 h X q := Or.inr ⟨E, e, ha.trans ew.symm, hp⟩
theorem rq_cell (x : Int32) : f_X6_requireCell x = 0 ↔ f_X7_isCell x = 0 := by rw [f_X6_requireCell, cell_eq]; exact b01
theorem rq_len (x : Int32) : f_X6_requireLength x = 0 ↔ f_X7_isLength x = 0 := by rw [f_X6_requireLength, length_eq]; exact b01
theorem rq_car {X : Cx} {M : Mo} (h : RelX X M) (c : Int32) : f_X6_requireCar X c = 0 ↔ f_X7_isCar (mN M) c = 0 := by rw [f_X6_requireCar, car_eq h.nw.1 h.nw.2.ri]; exact b01
theorem rq_park {X : Cx} {M : Mo} (h : RelX X M) (c : Int32) : f_X6_requireParked X c = 0 ↔ f_X7_isParked (mN M) c = 0 := by rw [f_X6_requireParked, parked_eq h.nw.1 h.nw.2.ri]; exact b01
theorem xN_1 (X : Cx) : xN (yH (yN X (hT (h_X0_remember (xH X, xN X)))) (hH (h_X0_remember (xH X, xN X)))) = xN X := rem_now X
theorem mN_1 (M : Mo) : mN (h_X7_remember (h_X7_refused M 0).2) = mN M := by rw [rem_N, refused_2]; rfl
theorem act_all {X : Cx} {M : Mo} (h : RelX X M) {S : St} {g : Rw} (r : RS S g) : RelX (yN (yH (yN X (hT (h_X0_remember (xH X, xN X)))) (hH (h_X0_remember (xH X, xN X)))) S) (oN (h_X7_remember (h_X7_refused M 0).2) g) ∧ mA (oN (h_X7_remember (h_X7_refused M 0).2) g) = 0 := by
  rw [refused_2]
  obtain ⟨a, b, -⟩ := rem_all (h.oA 0)
  exact ⟨a.now r, b⟩
theorem o_hydrant {X : Cx} {M : Mo} (x on : Int32) (h : RelX X M) : OpOk RelX "java/lang/IndexOutOfBoundsException" (h_X6_hydrant X x on) X (h_X7_hydrant M x on) := by
  rw [h_X7_hydrant]
  by_cases c1 : f_X7_isCell x = 0
  · rw [if_pos c1, refused_2]
    exact ok_l (E := "java/lang/IndexOutOfBoundsException") (by rw [h_X6_hydrant, if_pos ((rq_cell x).mpr c1)]) 1 (if_pos rfl) rfl (h.oA 1)
  · have d1 : ¬ f_X6_requireCell x = 0 := fun z => c1 ((rq_cell x).mp z)
    rw [if_neg c1]
    by_cases c2 : f_X7_canHydrant (mN M) x on = 0
    · rw [if_pos c2, refused_2]
      exact ok_l (E := "java/lang/IllegalStateException") (by rw [h_X6_hydrant, if_neg d1, hyd_eq h.nw.1, if_pos c2]) 2 (if_neg (by decide)) rfl (h.oA 2)
    · rw [if_neg c2]
      obtain ⟨j, hj, rfl⟩ := rcell_n c1
      have q := hyd_all h.nw.1 h.nw.2 c2 hj
      have e : h_X6_hydrant X (nI j) on = .inr ((h_X4_putHydrant (xN X) (nI j) on).1, (yN (yH (yN X (hT (h_X0_remember (xH X, xN X)))) (hH (h_X0_remember (xH X, xN X)))) ((h_X4_putHydrant (xN X) (nI j) on).2))) := by
        rw [h_X6_hydrant, if_neg d1, hyd_eq h.nw.1, if_neg c2, xN_1]
      rw [mN_1, nI_clamp (by omega)]
      have a := act_all h ⟨q.2.1, q.2.2⟩
      exact ok_r e a.2 a.1 q.1
theorem o_come {X : Cx} {M : Mo} (len stay : Int32) (h : RelX X M) : OpOk RelX "java/lang/IllegalArgumentException" (h_X6_come X len stay) X (h_X7_come M len stay) := by
  have hm := h.nw.2.ri.m
  rw [h_X7_come, ← stay_eq]
  by_cases c1 : f_X7_isLength len = 0
  · rw [if_pos c1, refused_2]
    exact ok_l (E := "java/lang/IllegalArgumentException") (by rw [h_X6_come, if_pos ((rq_len len).mpr c1)]) 1 (if_pos rfl) rfl (h.oA 1)
  · have d1 : ¬ f_X6_requireLength len = 0 := fun z => c1 ((rq_len len).mp z)
    rw [if_neg c1]
    by_cases c2 : f_X6_isStay stay = 0
    · rw [if_pos c2, refused_2]
      exact ok_l (E := "java/lang/IllegalArgumentException") (by rw [h_X6_come, if_neg d1, if_pos c2]) 1 (if_pos rfl) rfl (h.oA 1)
    · rw [if_neg c2]
      have e0 : f_X4_allCame (xN X) = 0 ↔ ¬ (40 : Int32) ≤ mN M 0 := by
        have e1 : nI (gm (mN M)) < 40 ↔ gm (mN M) < 40 := nI_ltI (b := 40) (by omega) (by omega)
        have e2 : (40 : Int32) ≤ nI (gm (mN M)) ↔ 40 ≤ gm (mN M) := nI_leI (a := 40) (by omega) (by omega)
        rw [f_X4_allCame, ← h.nw.1.1.1, hm.1, b01, e1, e2]
        omega
      by_cases c3 : (40 : Int32) ≤ mN M 0
      · rw [if_pos c3, refused_2]
        exact ok_l (E := "java/lang/IllegalStateException") (by rw [h_X6_come, if_neg d1, if_neg c2, if_neg (fun z => e0.mp z c3)]) 2 (if_neg (by decide)) rfl (h.oA 2)
      · rw [if_neg c3]
        have q := come_all h.nw.1 h.nw.2 (gm40 h.nw.2.ri c3) c1 c2
        have e : h_X6_come X len stay = .inr ((h_X4_arrive (xN X) len stay).1, (yN (yH (yN X (hT (h_X0_remember (xH X, xN X)))) (hH (h_X0_remember (xH X, xN X)))) ((h_X4_arrive (xN X) len stay).2))) := by
          rw [h_X6_come, if_neg d1, if_neg c2, if_pos (e0.mpr c3), xN_1]
        rw [mN_1]
        have a := act_all h ⟨q.2.1, q.2.2⟩
        exact ok_r e a.2 a.1 q.1
theorem o_leave {X : Cx} {M : Mo} (c : Int32) (h : RelX X M) : OpOk RelX "java/lang/IndexOutOfBoundsException" (h_X6_leave X c) X (h_X7_leave M c) := by
  have hm := h.nw.2.ri.m
  rw [h_X7_leave]
  by_cases c1 : f_X7_isCar (mN M) c = 0
  · rw [if_pos c1, refused_2]
    exact ok_l (E := "java/lang/IndexOutOfBoundsException") (by rw [h_X6_leave, if_pos ((rq_car h c).mpr c1)]) 1 (if_pos rfl) rfl (h.oA 1)
  · have d1 : ¬ f_X6_requireCar X c = 0 := fun z => c1 ((rq_car h c).mp z)
    rw [if_neg c1]
    by_cases c2 : f_X7_isParked (mN M) c = 0
    · rw [if_pos c2, refused_2]
      exact ok_l (E := "java/lang/IllegalStateException") (by rw [h_X6_leave, if_neg d1, if_pos ((rq_park h c).mpr c2)]) 2 (if_neg (by decide)) rfl (h.oA 2)
    · have d2 : ¬ f_X6_requireParked X c = 0 := fun z => c2 ((rq_park h c).mp z)
      rw [if_neg c2]
      obtain ⟨j, hj, rfl, hp⟩ := park_c h.nw.2.ri c2
      have q := goes_all h.nw.1 h.nw.2 (sta := 2) hj hp (by decide) (by decide) (Or.inl rfl)
      have e : h_X6_leave X (nI j) = .inr ((h_X4_depart (xN X) (nI j) 2).1, (yN (yH (yN X (hT (h_X0_remember (xH X, xN X)))) (hH (h_X0_remember (xH X, xN X)))) ((h_X4_depart (xN X) (nI j) 2).2))) := by
        rw [h_X6_leave, if_neg d1, if_neg d2, xN_1]
      rw [mN_1, nI_clamp (by omega)]
      have a := act_all h ⟨q.2.1, q.2.2⟩
      exact ok_r e a.2 a.1 q.1
theorem goes_of (g : Rw) {c : Nat} (sta : Int32) (hx : px g c + pj g c ≤ 80) {w : Nat} (hw : w < 6) (h2 : w ≠ 2) (h3 : w ≠ 3) : f_X7_of (h_X7_goes g c sta).2 c w = f_X7_of g c w := by
  rw [h_X7_goes]
  show f_X7_of (h_X7_lay (h_X7_lay (h_X7_fill g (px g c) (pj g c) (-1)) c 3 (-1)) c 2 sta) c w = _
  rw [of_lay_ne _ _ (by omega) hw (Or.inr (by omega)), of_lay_ne _ _ (by omega) hw (Or.inr (by omega)), of_fill _ _ hx]
theorem o_tow {X : Cx} {M : Mo} (c : Int32) (h : RelX X M) : OpOk RelX "java/lang/IndexOutOfBoundsException" (h_X6_tow X c) X (h_X7_tow M c) := by
  have hm := h.nw.2.ri.m
  rw [h_X7_tow]
  by_cases c1 : f_X7_isCar (mN M) c = 0
  · rw [if_pos c1, refused_2]
    exact ok_l (E := "java/lang/IndexOutOfBoundsException") (by rw [h_X6_tow, if_pos ((rq_car h c).mpr c1)]) 1 (if_pos rfl) rfl (h.oA 1)
  · have d1 : ¬ f_X6_requireCar X c = 0 := fun z => c1 ((rq_car h c).mp z)
    rw [if_neg c1]
    by_cases c2 : f_X7_isParked (mN M) c = 0
    · rw [if_pos c2, refused_2]
      exact ok_l (E := "java/lang/IllegalStateException") (by rw [h_X6_tow, if_neg d1, if_pos ((rq_park h c).mpr c2)]) 2 (if_neg (by decide)) rfl (h.oA 2)
    · have d2 : ¬ f_X6_requireParked X c = 0 := fun z => c2 ((rq_park h c).mp z)
      rw [if_neg c2]
      obtain ⟨j, hj, rfl, hp⟩ := park_c h.nw.2.ri c2
      have hx := (h.nw.2.ri.X hj hp).2.2
      have q := goes_all h.nw.1 h.nw.2 (sta := 4) hj hp (by decide) (by decide) (Or.inr rfl)
      have e : h_X6_tow X (nI j) = .inr (f_X4_minutesLeft (xN X) (nI j), (yN (yH (yN X (hT (h_X0_remember (xH X, xN X)))) (hH (h_X0_remember (xH X, xN X)))) ((h_X4_depart (xN X) (nI j) 4).2))) := by
        rw [h_X6_tow, if_neg d1, if_neg d2, xN_1]
      rw [mN_1, nI_clamp (by omega)]
      have a := act_all h ⟨q.2.1, q.2.2⟩
      refine ok_r e a.2 a.1 ?_
      show _ = f_X7_of (h_X7_goes (mN M) j 4).2 j 1 - f_X7_of (h_X7_goes (mN M) j 4).2 j 4
      rw [goes_of _ _ hx (by omega) (by omega) (by omega), goes_of _ _ hx (by omega) (by omega) (by omega), f_X4_minutesLeft, get_n _ (by omega) (by omega), get_n _ (by omega) (by omega), (h.nw.1.2.2.1 j hj).2.1, (h.nw.1.2.2.1 j hj).2.2.2.2.1]
theorem o_move {X : Cx} {M : Mo} (c x : Int32) (h : RelX X M) : OpOk RelX "java/lang/IndexOutOfBoundsException" (h_X6_move X c x) X (h_X7_move M c x) := by
  have hm := h.nw.2.ri.m
  rw [h_X7_move]
  by_cases c1 : f_X7_isCar (mN M) c = 0
  · rw [if_pos c1, refused_2]
    exact ok_l (E := "java/lang/IndexOutOfBoundsException") (by rw [h_X6_move, if_pos ((rq_car h c).mpr c1)]) 1 (if_pos rfl) rfl (h.oA 1)
  · have d1 : ¬ f_X6_requireCar X c = 0 := fun z => c1 ((rq_car h c).mp z)
    rw [if_neg c1]
    by_cases c2 : f_X7_isCell x = 0
    · rw [if_pos c2, refused_2]
      exact ok_l (E := "java/lang/IndexOutOfBoundsException") (by rw [h_X6_move, if_neg d1, if_pos ((rq_cell x).mpr c2)]) 1 (if_pos rfl) rfl (h.oA 1)
    · have d2 : ¬ f_X6_requireCell x = 0 := fun z => c2 ((rq_cell x).mp z)
      rw [if_neg c2]
      obtain ⟨j, hj, rfl⟩ := car_n hm.1 hm.2 c1
      obtain ⟨y, hy, rfl⟩ := rcell_n c2
      rw [nI_clamp (show j < 2 ^ 31 by omega), nI_clamp (show y < 2 ^ 31 by omega)]
      by_cases c3 : f_X7_canMove (mN M) j y = 0
      · rw [if_pos c3, refused_2]
        exact ok_l (E := "java/lang/IllegalStateException") (by rw [h_X6_move, if_neg d1, if_neg d2, shift_eq h.nw.1 h.nw.2.ri (by omega) hy, if_pos c3]) 2 (if_neg (by decide)) rfl (h.oA 2)
      · rw [if_neg c3]
        have q := move_all h.nw.1 h.nw.2 (show j < 2 ^ 31 by omega) hy c3
        have e : h_X6_move X (nI j) (nI y) = .inr ((h_X4_shift (xN X) (nI j) (nI y)).1, (yN (yH (yN X (hT (h_X0_remember (xH X, xN X)))) (hH (h_X0_remember (xH X, xN X)))) ((h_X4_shift (xN X) (nI j) (nI y)).2))) := by
          rw [h_X6_move, if_neg d1, if_neg d2, shift_eq h.nw.1 h.nw.2.ri (by omega) hy, if_neg c3, xN_1]
        rw [mN_1]
        have a := act_all h ⟨q.2.1, q.2.2⟩
        exact ok_r e a.2 a.1 q.1
theorem o_minutes {X : Cx} {M : Mo} (x : Int32) (h : RelX X M) : OpOk RelX "java/lang/IllegalArgumentException" (h_X6_minutes X x) X (h_X7_minutes M x) := by
  rw [h_X7_minutes, ← minutes_eq]
  by_cases c1 : f_X6_isMinutes x = 0
  · rw [if_pos c1, refused_2]
    exact ok_l (E := "java/lang/IllegalArgumentException") (by rw [h_X6_minutes, if_pos c1]) 1 (if_pos rfl) rfl (h.oA 1)
  · rw [if_neg c1]
    have q := minutes_all h.nw.1 h.nw.2 c1
    have e : h_X6_minutes X x = .inr ((h_X4_passMinutes (xN X) x).1, (yN (yH (yN X (hT (h_X0_remember (xH X, xN X)))) (hH (h_X0_remember (xH X, xN X)))) ((h_X4_passMinutes (xN X) x).2))) := by
      rw [h_X6_minutes, if_neg c1, xN_1]
    rw [mN_1]
    have a := act_all h ⟨q.2.1, q.2.2⟩
    exact ok_r e a.2 a.1 q.1
theorem o_set {X : Cx} {M : Mo} (w v : Int32) (h : RelX X M) : OpOk RelX "java/lang/IllegalArgumentException" (h_X6_set X w v) X (h_X7_set M w v) := by
  rw [h_X7_set]
  by_cases c1 : f_X7_isSetting w v = 0
  · rw [if_pos c1, refused_2]
    exact ok_l (E := "java/lang/IllegalArgumentException") (by rw [h_X6_set, setting_eq, if_pos c1]) 1 (if_pos rfl) rfl (h.oA 1)
  · rw [if_neg c1]
    obtain ⟨j, hj, rfl⟩ := set_w c1
    have q := change_all h.nw.1 h.nw.2 hj c1
    have e : h_X6_set X (nI j) v = .inr ((h_X4_changeSetting (xN X) (nI j) v).1, (yN (yH (yN X (hT (h_X0_remember (xH X, xN X)))) (hH (h_X0_remember (xH X, xN X)))) ((h_X4_changeSetting (xN X) (nI j) v).2))) := by
      rw [h_X6_set, setting_eq, if_neg c1, xN_1]
    rw [mN_1, nI_clamp (by omega)]
    have a := act_all h ⟨q.2.1, q.2.2⟩
    exact ok_r e a.2 a.1 q.1
theorem o_undo {X : Cx} {M : Mo} (h : RelX X M) : OpOk RelX "java/lang/IllegalStateException" (h_X6_undo X) X (h_X7_undo M) := by
  have hk := h.hk
  rw [h_X7_undo]
  by_cases c1 : mC M = 0
  · rw [if_pos c1, refused_2]
    have k0 : qK (xH X) = 0 := by
      rw [h.hc] at c1
      exact nI_inj (b := 0) (by omega) (by omega) c1
    have e0 : ¬ f_X0_isEmpty (xH X) = 0 := by
      rw [f_X0_isEmpty, k0]
      decide
    exact ok_l (E := "java/lang/IllegalStateException") (by rw [h_X6_undo, if_neg e0]) 1 (if_pos rfl) rfl (h.oA 1)
  · rw [if_neg c1, refused_2]
    have k0 : 1 ≤ qK (xH X) := by
      rcases Nat.eq_zero_or_pos (qK (xH X)) with z | z
      · rw [h.hc, z] at c1; exact absurd rfl c1
      · exact z
    have e0 : f_X0_isEmpty (xH X) = 0 := by
      rw [f_X0_isEmpty, if_pos]
      exact (nI_ltI (a := 0) (by omega) (by omega)).mpr k0
    have e0' : f_X0_isEmpty (hH (xH X, xN X)) = 0 := e0
    have e : h_X6_undo X = .inr (nI (qK (xH X) - 1), (yH (yN X (qF (xH X) ((qO (xH X) + (qK (xH X) - 1)) % 14))) (uK (xH X) (qK (xH X) - 1)))) := by
      rw [h_X6_undo, if_pos e0, h_X0_takeBack, if_pos e0']
      rfl
    have ec : mC M - 1 = nI (qK (xH X) - 1) := by
      rw [h.hc]
      exact pk_sub k0
    have r := h.hr (qK (xH X) - 1) (by omega)
    have r2 : RS (qF (xH X) ((qO (xH X) + (qK (xH X) - 1)) % 14)) (h_X7_copyState (mD M) (mN M) (327 * (ac M - 1)) 0) := r.cong fun i hi => by
      rw [cp_at, if_pos (by omega), h.ac]
      congr 1
    refine ok_r e rfl ?_ ?_
    · have hn := (h.oA 0).now r2
      exact ⟨hn.tz, hn.t120, hn.tl, hn.nw, hn.ho, show qK (xH X) - 1 ≤ 14 by omega, ec, fun i hi => h.hr i (by have hi' : i < qK (xH X) - 1 := hi; omega), hn.sl⟩
    · exact ec.symm
