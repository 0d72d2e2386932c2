/-! calls that are refused change nothing -/
theorem m1_sub {j : Nat} (h : j < 1000) : (-1 : Int32) - nI j < 0 := by
  rw [Int32.lt_iff_toInt_lt, Int32.toInt_sub, nI_toInt (by omega), show (-1 : Int32).toInt = -1 by decide, show (0 : Int32).toInt = 0 by decide, Int.bmod_eq_of_le (by omega) (by omega)]
  omega
theorem one_sub {j : Nat} (h : j < 1000) : (1 : Int32) - nI j < 2 := by
  rw [Int32.lt_iff_toInt_lt, Int32.toInt_sub, nI_toInt (by omega), show (1 : Int32).toInt = 1 by decide, show (2 : Int32).toInt = 2 by decide, Int.bmod_eq_of_le (by omega) (by omega)]
  omega
theorem no_append {X : Cx} {c : Int32} (h : c < 0 ∨ 255 < c) : pv (h_X6_append X c) X = (-9999002, X) := by
  rw [h_X6_append]
  rcases h with h | h
  · rw [if_pos h]
    rfl
  · have h0 : ¬ c < 0 := fun z => by
      rw [Int32.lt_iff_toInt_lt, show (0 : Int32).toInt = 0 by decide] at z
      rw [Int32.lt_iff_toInt_lt, show (255 : Int32).toInt = 255 by decide] at h
      omega
    rw [if_neg h0, if_neg (fun z => by
      rw [Int32.le_iff_toInt_le, show (255 : Int32).toInt = 255 by decide] at z
      rw [Int32.lt_iff_toInt_lt, show (255 : Int32).toInt = 255 by decide] at h
      omega)]
    rfl
theorem ne_k {k a : Nat} (hk : k < 2 ^ 31) (ha : a < 2 ^ 31) (h : k ≠ a) : ¬ nI k = nI a := fun z => h (nI_inj hk ha z)
theorem no_about {X : Cx} {k : Nat} (h : 12 ≤ k) (h2 : k < 2 ^ 31) : pv (h_X6_about X (nI k)) X = (-9999002, X) := by
  rw [h_X6_about, if_neg (show ¬ nI k = (0 : Int32) from ne_k (a := 0) h2 (by omega) (by omega)), if_neg (show ¬ nI k = (1 : Int32) from ne_k (a := 1) h2 (by omega) (by omega)), if_neg (show ¬ nI k = (2 : Int32) from ne_k (a := 2) h2 (by omega) (by omega)), if_neg (show ¬ nI k = (3 : Int32) from ne_k (a := 3) h2 (by omega) (by omega)), if_neg (show ¬ nI k = (4 : Int32) from ne_k (a := 4) h2 (by omega) (by omega)), if_neg (show ¬ nI k = (5 : Int32) from ne_k (a := 5) h2 (by omega) (by omega)), if_neg (show ¬ nI k = (6 : Int32) from ne_k (a := 6) h2 (by omega) (by omega)), if_neg (show ¬ nI k = (7 : Int32) from ne_k (a := 7) h2 (by omega) (by omega)), if_neg (show ¬ nI k = (8 : Int32) from ne_k (a := 8) h2 (by omega) (by omega)), if_neg (show ¬ nI k = (9 : Int32) from ne_k (a := 9) h2 (by omega) (by omega)), if_neg (show ¬ nI k = (10 : Int32) from ne_k (a := 10) h2 (by omega) (by omega)), if_neg (show ¬ nI k = (11 : Int32) from ne_k (a := 11) h2 (by omega) (by omega))]
  rfl
theorem car_no {X : Cx} {M : Mo} (h : RelX X M) {c : Int32} (hc : c < 0 ∨ nI (gm (mN M)) ≤ c) : f_X6_requireCar X c = 0 := by
  have e : sN (xN X) = nI (gm (mN M)) := h.nw.1.1.1.symm.trans h.nw.2.ri.m.1
  rw [f_X6_requireCar, f_X4_isCar, e]
  rcases hc with hc | hc
  · rw [if_pos hc, if_pos rfl]
  · by_cases c0 : c < 0
    · rw [if_pos c0, if_pos rfl]
    · rw [if_neg c0, if_pos hc, if_pos rfl]
theorem no_car {X : Cx} {M : Mo} (h : RelX X M) {c : Int32} (w : Int32) (hc : c < 0 ∨ nI (gm (mN M)) ≤ c) : pv (h_X6_carOf X c w) X = (-9999001, X) := by
  rw [h_X6_carOf, if_pos (car_no h hc)]
  rfl
theorem no_car_w {X : Cx} {M : Mo} (h : RelX X M) (hc : 0 < gm (mN M)) {k : Nat} (h1 : 7 ≤ k) (h2 : k < 2 ^ 31) : pv (h_X6_carOf X 0 (nI k)) X = (-9999002, X) := by
  rw [h_X6_carOf, if_neg (show ¬ f_X6_requireCar X 0 = 0 from rq_yes (c := 0) h hc), if_neg (show ¬ nI k = (0 : Int32) from ne_k (a := 0) h2 (by omega) (by omega)), if_neg (show ¬ nI k = (1 : Int32) from ne_k (a := 1) h2 (by omega) (by omega)), if_neg (show ¬ nI k = (2 : Int32) from ne_k (a := 2) h2 (by omega) (by omega)), if_neg (show ¬ nI k = (3 : Int32) from ne_k (a := 3) h2 (by omega) (by omega)), if_neg (show ¬ nI k = (4 : Int32) from ne_k (a := 4) h2 (by omega) (by omega)), if_neg (show ¬ nI k = (5 : Int32) from ne_k (a := 5) h2 (by omega) (by omega)), if_neg (show ¬ nI k = (6 : Int32) from ne_k (a := 6) h2 (by omega) (by omega))]
  rfl
theorem cell_no {x : Int32} (h : x < 0 ∨ 80 ≤ x) : f_X6_requireCell x = 0 := by
  rw [f_X6_requireCell, f_X6_isCell]
  rcases h with h | h
  · rw [if_pos h, if_pos rfl]
  · by_cases c0 : x < 0
    · rw [if_pos c0, if_pos rfl]
    · rw [if_neg c0, if_pos h, if_pos rfl]
theorem no_at {X : Cx} {x : Int32} (h : x < 0 ∨ 80 ≤ x) : pv (h_X6_at X x) X = (-9999001, X) := by
  rw [h_X6_at, if_pos (cell_no h)]
  rfl
theorem no_gap {X : Cx} {M : Mo} (h : RelX X M) (w : Int32) {k : Nat} (hk : f_X7_gaps (mN M) ≤ k) (h2 : k < 2 ^ 31) : pv (h_X6_gap X (nI k) w) X = (-9999001, X) := by
  have e1 := gst_stay (gaps_N (mN M)).1 (k - f_X7_gaps (mN M))
  rw [show f_X7_gaps (mN M) + (k - f_X7_gaps (mN M)) = k by omega] at e1
  have e : f_X4_gapStart (xN X) (nI k) = -1 := by
    rw [gapStart_eq h2 h.nw.1.2.2.2, gapOf_gst _ h2, if_pos e1]
  rw [h_X6_gap, if_pos e]
  rfl
theorem no_gap_n {X : Cx} {k w : Int32} (hk : k < 0) : pv (h_X6_gap X k w) X = (-9999001, X) := by
  rw [h_X6_gap, if_pos (gapStart_neg hk)]
  rfl
theorem two_no {k : Nat} (h1 : 2 ≤ k) (h2 : k < 2 ^ 31) : f_X6_requireZeroOrOne (nI k) = 0 := by
  rw [f_X6_requireZeroOrOne, if_neg (show ¬ nI k = (0 : Int32) from ne_k (a := 0) h2 (by omega) (by omega)), if_neg (show ¬ nI k = (1 : Int32) from ne_k (a := 1) h2 (by omega) (by omega))]
theorem no_gap_w {X : Cx} {M : Mo} (h : RelX X M) (hg : 0 < f_X7_gaps (mN M)) {k : Nat} (h1 : 2 ≤ k) (h2 : k < 2 ^ 31) : pv (h_X6_gap X 0 (nI k)) X = (-9999002, X) := by
  have h8 := (gaps_N (mN M)).2 0 hg
  have e : f_X4_gapStart (xN X) 0 = nI (gst (mN M) 0) := by
    rw [show (0 : Int32) = nI 0 from rfl, gapStart_eq (by omega) h.nw.1.2.2.2, gapOf_gst _ (by omega), if_neg (by omega)]
  rw [h_X6_gap, e, if_neg (nI_m1 (by omega)), if_pos (two_no h1 h2)]
  rfl
theorem no_setting {X : Cx} {k : Nat} (h1 : 3 ≤ k) (h2 : k < 2 ^ 31) : pv (h_X6_setting X (nI k)) X = (-9999002, X) := by
  have e : f_X4_settingOf (xN X) (nI k) = -1 := by
    rw [f_X4_settingOf, if_neg (show ¬ nI k = (0 : Int32) from ne_k (a := 0) h2 (by omega) (by omega)), if_neg (show ¬ nI k = (1 : Int32) from ne_k (a := 1) h2 (by omega) (by omega)), if_neg (show ¬ nI k = (2 : Int32) from ne_k (a := 2) h2 (by omega) (by omega))]
  rw [h_X6_setting, if_pos e]
  rfl
theorem no_hydrant {X : Cx} {x : Int32} (on : Int32) (h : x < 0 ∨ 80 ≤ x) : pv (h_X6_hydrant X x on) X = (-9999001, X) := by
  rw [h_X6_hydrant, if_pos (cell_no h)]
  rfl
theorem len_no {x : Int32} (h : x < 2 ∨ 8 < x) : f_X6_requireLength x = 0 := by
  rw [f_X6_requireLength, f_X6_isLength]
  rcases h with h | h
  · rw [if_pos h, if_pos rfl]
  · by_cases c0 : x < 2
    · rw [if_pos c0, if_pos rfl]
    · rw [if_neg c0, if_pos h, if_pos rfl]
theorem no_come {X : Cx} {x : Int32} (y : Int32) (h : x < 2 ∨ 8 < x) : pv (h_X6_come X x y) X = (-9999002, X) := by
  rw [h_X6_come, if_pos (len_no h)]
  rfl
theorem no_come_s {X : Cx} {y : Int32} (h : y < 1 ∨ 99 < y) : pv (h_X6_come X 5 y) X = (-9999002, X) := by
  have e : f_X6_isStay y = 0 := by
    rw [f_X6_isStay]
    rcases h with h | h
    · rw [if_pos h]
    · by_cases c0 : y < 1
      · rw [if_pos c0]
      · rw [if_neg c0, if_pos h]
  rw [h_X6_come, if_neg (by decide), if_pos e]
  rfl
theorem no_come_40 {X : Cx} {M : Mo} (h : RelX X M) (h40 : 40 ≤ gm (mN M)) : pv (h_X6_come X 5 5) X = (-9999003, X) := by
  have e : sN (xN X) = nI (gm (mN M)) := h.nw.1.1.1.symm.trans h.nw.2.ri.m.1
  have hm := h.nw.2.ri.m.2
  rw [h_X6_come, if_neg (by decide), if_neg (by decide), f_X4_allCame, e, if_neg (show ¬ nI (gm (mN M)) < (40 : Int32) from nI_nlt (a := gm (mN M)) (b := 40) h40 (by omega)), if_neg (by decide)]
  rfl
theorem no_leave {X : Cx} {M : Mo} (h : RelX X M) {c : Int32} (hc : c < 0 ∨ nI (gm (mN M)) ≤ c) : pv (h_X6_leave X c) X = (-9999001, X) := by
  rw [h_X6_leave, if_pos (car_no h hc)]
  rfl
theorem no_tow {X : Cx} {M : Mo} (h : RelX X M) {c : Int32} (hc : c < 0 ∨ nI (gm (mN M)) ≤ c) : pv (h_X6_tow X c) X = (-9999001, X) := by
  rw [h_X6_tow, if_pos (car_no h hc)]
  rfl
theorem no_move {X : Cx} {M : Mo} (h : RelX X M) {c : Int32} (x : Int32) (hc : c < 0 ∨ nI (gm (mN M)) ≤ c) : pv (h_X6_move X c x) X = (-9999001, X) := by
  rw [h_X6_move, if_pos (car_no h hc)]
  rfl
theorem no_move_c {X : Cx} {M : Mo} (h : RelX X M) (hg : 0 < gm (mN M)) {x : Int32} (hx : x < 0 ∨ 80 ≤ x) : pv (h_X6_move X 0 x) X = (-9999001, X) := by
  rw [h_X6_move, if_neg (show ¬ f_X6_requireCar X 0 = 0 from rq_yes (c := 0) h hg), if_pos (cell_no hx)]
  rfl
theorem no_minutes {X : Cx} {x : Int32} (h : x < 1 ∨ 60 < x) : pv (h_X6_minutes X x) X = (-9999002, X) := by
  have e : f_X6_isMinutes x = 0 := by
    rw [f_X6_isMinutes]
    rcases h with h | h
    · rw [if_pos h]
    · by_cases c0 : x < 1
      · rw [if_pos c0]
      · rw [if_neg c0, if_pos h]
  rw [h_X6_minutes, if_pos e]
  rfl
theorem no_set0 {X : Cx} {v : Int32} (h : v < 0 ∨ 2 < v) : pv (h_X6_set X 0 v) X = (-9999002, X) := by
  have e : f_X6_isSettingValue 0 v = 0 := by
    rw [f_X6_isSettingValue, if_pos rfl]
    rcases h with h | h
    · rw [if_pos h]
    · by_cases c0 : v < 0
      · rw [if_pos c0]
      · rw [if_neg c0, if_pos h]
  rw [h_X6_set, if_pos e]
  rfl
theorem no_set1 {X : Cx} {v : Int32} (h : v < 0 ∨ 4 < v) : pv (h_X6_set X 1 v) X = (-9999002, X) := by
  have e : f_X6_isSettingValue 1 v = 0 := by
    rw [f_X6_isSettingValue, if_neg (by decide), if_pos rfl]
    rcases h with h | h
    · rw [if_pos h]
    · by_cases c0 : v < 0
      · rw [if_pos c0]
      · rw [if_neg c0, if_pos h]
  rw [h_X6_set, if_pos e]
  rfl
theorem no_set2 {X : Cx} {v : Int32} (h : v < 1 ∨ 30 < v) : pv (h_X6_set X 2 v) X = (-9999002, X) := by
  have e : f_X6_isSettingValue 2 v = 0 := by
    rw [f_X6_isSettingValue, if_neg (by decide), if_neg (by decide), if_pos rfl]
    rcases h with h | h
    · rw [if_pos h]
    · by_cases c0 : v < 1
      · rw [if_pos c0]
      · rw [if_neg c0, if_pos h]
  rw [h_X6_set, if_pos e]
  rfl
theorem no_set_w {X : Cx} (v : Int32) {k : Nat} (h1 : 3 ≤ k) (h2 : k < 2 ^ 31) : pv (h_X6_set X (nI k) v) X = (-9999002, X) := by
  have e : f_X6_isSettingValue (nI k) v = 0 := by
    rw [f_X6_isSettingValue, if_neg (show ¬ nI k = (0 : Int32) from ne_k (a := 0) h2 (by omega) (by omega)), if_neg (show ¬ nI k = (1 : Int32) from ne_k (a := 1) h2 (by omega) (by omega)), if_neg (show ¬ nI k = (2 : Int32) from ne_k (a := 2) h2 (by omega) (by omega))]
  rw [h_X6_set, if_pos e]
  rfl
theorem no_why {X : Cx} {x : Int32} (h : x < 2 ∨ 8 < x) : pv (h_X6_why X x) X = (-9999002, X) := by
  rw [h_X6_why, if_pos (len_no h)]
  rfl
theorem no_place {X : Cx} {x : Int32} (h : x < 2 ∨ 8 < x) : pv (h_X6_place X x) X = (-9999002, X) := by
  rw [h_X6_place, if_pos (len_no h)]
  rfl
theorem no_fits {X : Cx} {x : Int32} (w : Int32) (h : x < 2 ∨ 8 < x) : pv (h_X6_fits X x w) X = (-9999002, X) := by
  rw [h_X6_fits, if_pos (len_no h)]
  rfl
theorem no_fits_w {X : Cx} {k : Nat} (h1 : 2 ≤ k) (h2 : k < 2 ^ 31) : pv (h_X6_fits X 5 (nI k)) X = (-9999002, X) := by
  rw [h_X6_fits, if_neg (by decide), if_pos (two_no h1 h2)]
  rfl
theorem no_gapIn {X : Cx} {x : Int32} (h : x < 2 ∨ 8 < x) : pv (h_X6_gapIn X x) X = (-9999002, X) := by
  rw [h_X6_gapIn, if_pos (len_no h)]
  rfl
theorem no_mover {X : Cx} {x : Int32} (w : Int32) (h : x < 2 ∨ 8 < x) : pv (h_X6_mover X x w) X = (-9999002, X) := by
  rw [h_X6_mover, if_pos (len_no h)]
  rfl
theorem no_mover_w {X : Cx} {k : Nat} (h1 : 2 ≤ k) (h2 : k < 2 ^ 31) : pv (h_X6_mover X 5 (nI k)) X = (-9999002, X) := by
  rw [h_X6_mover, if_neg (by decide), if_pos (two_no h1 h2)]
  rfl
theorem no_jam {X : Cx} {x : Int32} (sd : Int64) (h : x < 2 ∨ 8 < x) : pv (h_X6_jam X x sd) X = (-9999002, X) := by
  rw [h_X6_jam, if_pos (len_no h)]
  rfl
theorem no_save {X : Cx} {k : Nat} (h1 : 2 ≤ k) (h2 : k < 2 ^ 31) : pv (h_X6_save X (nI k)) X = (-9999001, X) := by
  have e : f_X6_requireSlot (nI k) = 0 := by
    rw [f_X6_requireSlot, if_neg (nI_pos h2), if_neg (show ¬ nI k < (2 : Int32) from nI_nlt (a := k) (b := 2) h1 h2)]
  rw [h_X6_save, if_pos e]
  rfl
theorem no_restore {X : Cx} {x : Int32} (h : x < 0) : pv (h_X6_restore X x) X = (-9999001, X) := by
  have e : f_X6_requireSlot x = 0 := by rw [f_X6_requireSlot, if_pos h]
  rw [h_X6_restore, if_pos e]
  rfl
theorem no_script0 {X : Cx} : pv (h_X6_runScript X 0 0) X = (-9999002, X) := by
  rw [h_X6_runScript, if_pos (by decide)]
  rfl
theorem no_script1 {X : Cx} {n : Nat} (hn : n < 100000) : pv (h_X6_runScript X 1 (1000000 + (nI n).toInt64)) X = (-9999002, X) := by
  have e1 : (1000000 : Int64) + (nI n).toInt64 = lN (1000000 + n) := by
    rw [nI_l (by omega), show (1000000 : Int64) = lN 1000000 from rfl, lN_add]
  have t1 : (lN (1000000 + n)).toInt = ((1000000 + n : Nat) : Int) := lN_toInt (by omega)
  have e2 : ¬ lg_cmp (lN (1000000 + n)) 0 < 0 := fun z => by
    have z1 := (lgc_lt _ _).mp z
    rw [t1, show (0 : Int64).toInt = 0 by decide] at z1
    omega
  have e3 : ¬ lg_cmp (lN (1000000 + n) / 1000000) 1 < 0 := fun z => by
    have z1 := (lgc_lt _ _).mp z
    have e5 : ((1000000 + n : Nat) : Int).tdiv 1000000 = (((1000000 + n) / 1000000 : Nat) : Int) := rfl
    rw [Int64.toInt_div, t1, show (1000000 : Int64).toInt = 1000000 by decide, show (1 : Int64).toInt = 1 by decide, e5, Int.bmod_eq_of_le (by omega) (by omega)] at z1
    omega
  rw [h_X6_runScript, e1, if_neg (by decide), if_pos (by decide), lp_xUnit, if_pos (by decide), if_neg e2, if_neg e3]
  rfl
theorem no_sim {X : Cx} (sd : Int64) {k : Nat} (h1 : 61 ≤ k) (h2 : k < 2 ^ 31) : pv (h_X6_simulate X sd (nI k)) X = (-9999002, X) := by
  rw [h_X6_simulate, if_neg (show ¬ nI k < (1 : Int32) from nI_nlt (a := k) (b := 1) (by omega) h2), if_neg (show ¬ nI k ≤ (60 : Int32) from nI_ge (a := 60) (b := k) (by omega) h2)]
  rfl
theorem park_no {X : Cx} {M : Mo} (h : RelX X M) {c : Nat} (hc : c < gm (mN M)) (hp : ¬ f_X7_of (mN M) c 2 = 0) : f_X6_requireParked X (nI c) = 0 := (rq_park h (nI c)).mpr ((isParked_n h.nw.2.ri hc).mpr hp)
theorem no_leave_p {X : Cx} {M : Mo} (h : RelX X M) {c : Nat} (hc : c < gm (mN M)) (hp : ¬ f_X7_of (mN M) c 2 = 0) : pv (h_X6_leave X (nI c)) X = (-9999003, X) := by
  rw [h_X6_leave, if_neg (rq_yes h hc), if_pos (park_no h hc hp)]
  rfl
theorem no_tow_p {X : Cx} {M : Mo} (h : RelX X M) {c : Nat} (hc : c < gm (mN M)) (hp : ¬ f_X7_of (mN M) c 2 = 0) : pv (h_X6_tow X (nI c)) X = (-9999003, X) := by
  rw [h_X6_tow, if_neg (rq_yes h hc), if_pos (park_no h hc hp)]
  rfl
theorem no_move_s {X : Cx} {M : Mo} (h : RelX X M) {c x : Nat} (hc : c < gm (mN M)) (hx : x < 80) (hm : f_X7_canMove (mN M) c x = 0) : pv (h_X6_move X (nI c) (nI x)) X = (-9999003, X) := by
  have hm4 := h.nw.2.ri.m.2
  rw [h_X6_move, if_neg (rq_yes h hc), if_neg (cell_yes hx), if_pos (by rw [shift_eq h.nw.1 h.nw.2.ri (by omega) hx]; exact hm)]
  rfl
theorem move_np {g : Rw} (hi : RI g) {c x : Nat} (hc : c < gm g) (hp : ¬ f_X7_of g c 2 = 0) : f_X7_canMove g c x = 0 := by
  rw [f_X7_canMove, if_pos ((isParked_n hi hc).mpr hp)]
theorem move_79 {g : Rw} (hi : Inv g) {c : Nat} (hc : c < gm g) : f_X7_canMove g c 79 = 0 := by
  rcases b_f_X7_canMove g c 79 with e | e
  · exact e
  · have hm := hi.ri.m.2
    have h1 := move_cells hi.ri (c := c) (x := 79) (by omega) (by omega) (by rw [e]; decide)
    have h2 := (hi.ri.J hc).2.2
    omega
theorem no_hydrant_c {X : Cx} {M : Mo} (h : RelX X M) {c x : Nat} (hc : c < gm (mN M)) (hx : x < 80) (e : (mN M) (7 + x) = nI c) : pv (h_X6_hydrant X (nI x) 1) X = (-9999003, X) := by
  have hm := h.nw.2.ri.m.2
  have e2 : f_X4_allowsHydrant (xN X) (nI x) 1 = 0 := by
    rw [hyd_eq h.nw.1, f_X7_canHydrant]
    by_cases c0 : f_X7_isCell (nI x) = 0
    · rw [if_pos c0]
    · rw [if_neg c0, if_neg (by decide), show (7 : Int32) + nI x = nI (7 + x) from nI_add 7 x, nI_clamp (by omega), e, if_neg (nI_m1 (by omega)), if_neg (show ¬ nI c = (100 : Int32) from ne_k (a := 100) (by omega) (by omega) (by omega))]
  rw [h_X6_hydrant, if_neg (cell_yes hx), if_pos e2]
  rfl
