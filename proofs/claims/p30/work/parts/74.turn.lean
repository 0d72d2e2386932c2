theorem with_n (g : Rw) (mk : Int32) : ∃ n, n ≤ 81 ∧ f_X7_cellsWith g mk = nI n := by
  rw [f_X7_cellsWith]
  suffices ∀ (n k a : Nat), ∃ b, b ≤ a + n ∧ lp_rWith g mk n k (nI a) = nI b by
    obtain ⟨b, hb, e⟩ := this (80 + 1) 0 0
    exact ⟨b, by omega, e⟩
  intro n
  induction n with
  | zero => intro k a; exact ⟨0, by omega, rfl⟩
  | succ n ih =>
    intro k a
    rw [lp_rWith]
    by_cases c1 : (80 : Int32) ≤ nI k
    · rw [if_pos c1]; exact ⟨a, by omega, rfl⟩
    · rw [if_neg c1]
      by_cases c2 : g (7 + k) = mk
      · rw [if_pos c2, nI_1]
        obtain ⟨b, hb, e⟩ := ih (k + 1) (a + 1)
        exact ⟨b, by omega, e⟩
      · rw [if_neg c2, Int32.add_zero]
        obtain ⟨b, hb, e⟩ := ih (k + 1) a
        exact ⟨b, by omega, e⟩
theorem round_n (g : Rw) : ∀ (n k a : Nat) (g2 : Rw), ∃ b, b ≤ a + n ∧ (lp_rRound g n (nI a) k g2).1 = nI b := by
  intro n
  induction n with
  | zero => intro k a g2; exact ⟨a, by omega, rfl⟩
  | succ n ih =>
    intro k a g2
    rw [lp_rRound]
    have h1 : ∀ g3, ∃ b, b ≤ a + (n + 1) ∧ (lp_rRound g n (nI a) (k + 1) g3).1 = nI b := fun g3 => by
      obtain ⟨b, hb, e⟩ := ih (k + 1) a g3
      exact ⟨b, by omega, e⟩
    have h2 : ∀ g3, ∃ b, b ≤ a + (n + 1) ∧ (lp_rRound g n (nI a + 1) (k + 1) g3).1 = nI b := fun g3 => by
      rw [nI_1]
      obtain ⟨b, hb, e⟩ := ih (k + 1) (a + 1) g3
      exact ⟨b, by omega, e⟩
    by_cases c1 : g2 0 ≤ nI k
    · rw [if_pos c1]; exact ⟨a, by omega, rfl⟩
    · rw [if_neg c1]
      by_cases c2 : f_X7_of g2 k 2 = 1
      · rw [if_pos c2]
        by_cases c3 : (h_X7_parks g2 k).1 = 0
        · rw [if_pos c3]
          by_cases c4 : (f_X7_of (h_X7_lay ((h_X7_parks g2 k).2) k 5 ((f_X7_of ((h_X7_parks g2 k).2) k 5) + 1)) k 5) < ((h_X7_lay ((h_X7_parks g2 k).2) k 5 ((f_X7_of ((h_X7_parks g2 k).2) k 5) + 1)) 4)
          · rw [if_pos c4]; exact h1 _
          · rw [if_neg c4]; exact h1 _
        · rw [if_neg c3]; exact h2 _
      · rw [if_neg c2]; exact h1 _
theorem minute_n {S : St} {g : Rw} (h : Rel S g) (hi : Inv g) : ∃ b, b ≤ 41 ∧ (h_X7_minute g).1 = nI b := by
  have e0 : upd g 1 (g 1 + 1) 0 = g 0 := pk_un (by omega)
  have r : Rel (wM S (sM S + 1)) (upd g 1 (g 1 + 1)) := by
    rw [h.1.2.1]
    exact h.num (i := 1) (by omega) (by omega) ⟨rfl, rfl, rfl, rfl, rfl, rfl, rfl, rfl, rfl, rfl⟩ rfl rfl rfl rfl
  have i : Inv (upd g 1 (g 1 + 1)) := hi.nums (RI_same hi.ri e0 (pk_un (by omega)) (fun c _ q => RC_same q (of_upd _ _ (by omega)) (of_upd _ _ (by omega)) (of_upd _ _ (by omega)))) e0 (fun i hi => pk_un (by omega)) (hi.nu.c (pk_un (by omega)) (pk_un (by omega)))
  have eg : gm (upd g 1 (g 1 + 1)) = gm g := gm_cong e0
  have hm := hi.ri.m.2
  obtain ⟨g3, a, -, -, -⟩ := leave_lp g (gm g + 1) 0 _ _ r i (Nat.zero_le _) (by omega)
  rw [h_X7_minute, show (g 0).toNatClampNeg + 1 = gm g + 1 from rfl, a]
  obtain ⟨b, hb, e⟩ := round_n g (gm g + 1) 0 0 g3
  exact ⟨b, by omega, e⟩
theorem mins_n {m : Nat} (hm : m < 2 ^ 31) : ∀ (n k a : Nat) (S : St) (g : Rw), Rel S g → Inv g → ∃ b, b ≤ a + 41 * n ∧ (lp_rMin (nI m) n k (nI a) g).1 = nI b := by
  intro n
  induction n with
  | zero => intro k a S g h hi; exact ⟨a, by omega, rfl⟩
  | succ n ih =>
    intro k a S g h hi
    rw [lp_rMin]
    by_cases c1 : nI m ≤ nI k
    · rw [if_pos c1]; exact ⟨a, by omega, rfl⟩
    · rw [if_neg c1]
      obtain ⟨x, hx, ex⟩ := minute_n h hi
      obtain ⟨-, b, c, -⟩ := minute_all h hi
      rw [ex, nI_add]
      obtain ⟨y, hy, ey⟩ := ih (k + 1) (a + x) _ _ b c
      exact ⟨y, by omega, ey⟩
/-! the class's actions refuse where the reference would, and change nothing then -/
theorem dep_no {S : St} {g : Rw} (h : RS S g) {c : Int32} (sta : Int32) (hp : f_X7_isParked g c = 0) : h_X4_depart S c sta = (-1, S) := by
  rw [h_X4_depart, parked_eq h.1 h.2.ri, if_pos hp]
theorem dep_yes {S : St} {g : Rw} (h : RS S g) {c sta : Int32} (hp : ¬ f_X7_isParked g c = 0) (h0 : sta ≠ 0) (h1 : sta ≠ 1) (h24 : sta = 2 ∨ sta = 4) : (h_X4_depart S c sta).1 = (h_X7_goes g c.toNatClampNeg sta).1 ∧ RS (h_X4_depart S c sta).2 (h_X7_goes g c.toNatClampNeg sta).2 ∧ ∃ n, n < 2 ^ 31 ∧ (h_X7_goes g c.toNatClampNeg sta).1 = nI n := by
  have hm := h.2.ri.m.2
  obtain ⟨j, hj, rfl, hq⟩ := park_c h.2.ri hp
  rw [nI_clamp (by omega)]
  obtain ⟨a, b, c⟩ := goes_all h.1 h.2 hj hq h0 h1 h24
  have hx := (h.2.ri.X hj hq).2.2
  exact ⟨a, ⟨b, c⟩, px g j, by omega, rfl⟩
theorem hyd_no {S : St} {g : Rw} (h : RS S g) {x on : Int32} (hc : f_X7_canHydrant g x on = 0) : h_X4_putHydrant S x on = (-1, S) := by
  rw [h_X4_putHydrant, hyd_eq h.1, if_pos hc]
theorem hyd_yes {S : St} {g : Rw} (h : RS S g) {x on : Int32} (hc : ¬ f_X7_canHydrant g x on = 0) : (h_X4_putHydrant S x on).1 = (h_X7_hydrantOn g x.toNatClampNeg on).1 ∧ RS (h_X4_putHydrant S x on).2 (h_X7_hydrantOn g x.toNatClampNeg on).2 ∧ ∃ n, n < 2 ^ 31 ∧ (h_X7_hydrantOn g x.toNatClampNeg on).1 = nI n := by
  obtain ⟨j, hj, rfl⟩ := hyd_n hc
  rw [nI_clamp (by omega)]
  obtain ⟨a, b, c⟩ := hyd_all h.1 h.2 hc hj
  refine ⟨a, ⟨b, c⟩, ?_⟩
  rw [h_X7_hydrantOn]
  have w : ∀ G : Rw, ∃ n, n < 2 ^ 31 ∧ f_X7_cellsWith G 100 = nI n := fun G => by
    obtain ⟨n, hn, e⟩ := with_n G 100
    exact ⟨n, by omega, e⟩
  repeat' split
  all_goals exact w _
theorem come_no {S : St} {g : Rw} (h : RS S g) {len stay : Int32} (h40 : (40 : Int32) ≤ g 0) : h_X4_arrive S len stay = (-1, S) := by
  have e : ¬ f_X4_allCame S = 0 := by
    rw [f_X4_allCame, b01, ← h.1.1.1]
    exact Int32.not_lt.mpr h40
  rw [h_X4_arrive, if_neg e]
  repeat' split
  all_goals rfl
theorem come_len {S : St} {len stay : Int32} (hl : f_X7_isLength len = 0) : h_X4_arrive S len stay = (-1, S) := by
  rw [h_X4_arrive, length_eq, if_pos hl]
theorem come_stay {S : St} {len stay : Int32} (hs : f_X6_isStay stay = 0) : h_X4_arrive S len stay = (-1, S) := by
  rw [h_X4_arrive, if_pos hs]
  split <;> rfl
theorem come_yes {S : St} {g : Rw} (h : RS S g) {len stay : Int32} (h40 : ¬ (40 : Int32) ≤ g 0) (hl : ¬ f_X7_isLength len = 0) (hs : ¬ f_X6_isStay stay = 0) : (h_X4_arrive S len stay).1 = (h_X7_comeOn g len stay).1 ∧ RS (h_X4_arrive S len stay).2 (h_X7_comeOn g len stay).2 ∧ ∃ n, n < 2 ^ 31 ∧ (h_X7_comeOn g len stay).1 = nI n := by
  have hm := h.2.ri.m.2
  obtain ⟨a, b, c⟩ := come_all h.1 h.2 (gm40 h.2.ri h40) hl hs
  exact ⟨a, ⟨b, c⟩, gm g, by omega, rfl⟩
theorem chg_no {S : St} {w v : Int32} (hc : f_X7_isSetting w v = 0) : h_X4_changeSetting S w v = (-1, S) := by
  rw [h_X4_changeSetting, setting_eq, if_pos hc]
theorem chg_yes {S : St} {g : Rw} (h : RS S g) {w : Nat} {v : Int32} (hw : w < 3) (hc : ¬ f_X7_isSetting (nI w) v = 0) : (h_X4_changeSetting S (nI w) v).1 = (h_X7_change g w v).1 ∧ RS (h_X4_changeSetting S (nI w) v).2 (h_X7_change g w v).2 ∧ ∃ n, n < 2 ^ 31 ∧ (h_X7_change g w v).1 = nI n := by
  obtain ⟨a, b, c⟩ := change_all h.1 h.2 hw hc
  refine ⟨a, ⟨b, c⟩, ?_⟩
  obtain ⟨⟨p, hp, ep⟩, q, hq, eq⟩ := h.2.nu
  obtain ⟨r, hr, er⟩ := h.2.ri.2.1
  rw [h_X7_change]
  rcases (show w = 0 ∨ w = 1 ∨ w = 2 by omega) with rfl | rfl | rfl
  · exact ⟨p, by omega, ep⟩
  · exact ⟨r, by omega, er⟩
  · exact ⟨q, by omega, eq⟩
theorem mv_no {S : St} {g : Rw} (h : RS S g) {c x : Nat} (hc : c < 2 ^ 31) (hx : x < 80) (hm : f_X7_canMove g c x = 0) : h_X4_shift S (nI c) (nI x) = (-1, S) := by
  rw [h_X4_shift, shift_eq h.1 h.2.ri hc hx, if_pos hm]
theorem mv_yes {S : St} {g : Rw} (h : RS S g) {c x : Nat} (hc : c < 2 ^ 31) (hx : x < 80) (hm : ¬ f_X7_canMove g c x = 0) : (h_X4_shift S (nI c) (nI x)).1 = (h_X7_moveOn g c x).1 ∧ RS (h_X4_shift S (nI c) (nI x)).2 (h_X7_moveOn g c x).2 ∧ ∃ n, n < 2 ^ 31 ∧ (h_X7_moveOn g c x).1 = nI n := by
  obtain ⟨hcm, hp, hxj, -⟩ := move_cells h.2.ri hc hx hm
  have hx8 := (h.2.ri.X hcm hp).2.2
  obtain ⟨a, b, c'⟩ := move_all h.1 h.2 hc hx hm
  refine ⟨a, ⟨b, c'⟩, ?_⟩
  rw [h_X7_moveOn]
  by_cases z : nI (px g c) ≤ nI x
  · have z' := (nI_leI (by omega) (by omega)).mp z
    rw [if_pos z]
    exact ⟨x - px g c, by omega, pk_sub z'⟩
  · have z' : ¬ px g c ≤ x := fun w => z ((nI_leI (by omega) (by omega)).mpr w)
    rw [if_neg z]
    exact ⟨px g c - x, by omega, pk_sub (by omega)⟩
theorem min_no {S : St} {x : Int32} (hx : f_X6_isMinutes x = 0) : h_X4_passMinutes S x = (-1, S) := by
  rw [h_X4_passMinutes, if_pos hx]
theorem min_range {x : Int32} (hx : ¬ f_X6_isMinutes x = 0) : ∃ m, 1 ≤ m ∧ m ≤ 60 ∧ x = nI m := by
  rw [f_X6_isMinutes] at hx
  by_cases c1 : x < 1
  · rw [if_pos c1] at hx; exact absurd rfl hx
  · rw [if_neg c1] at hx
    by_cases c2 : 60 < x
    · rw [if_pos c2] at hx; exact absurd rfl hx
    · rw [Int32.lt_iff_toInt_lt, show (1 : Int32).toInt = 1 by decide] at c1
      rw [Int32.lt_iff_toInt_lt, show (60 : Int32).toInt = 60 by decide] at c2
      have h0 : ¬ x < 0 := fun z => by
        rw [Int32.lt_iff_toInt_lt, show (0 : Int32).toInt = 0 by decide] at z
        omega
      obtain ⟨t, ht, rfl⟩ := nI_of h0
      rw [nI_toInt ht] at c1 c2
      exact ⟨t, by omega, by omega, rfl⟩
theorem min_yes {S : St} {g : Rw} (h : RS S g) {x : Int32} (hx : ¬ f_X6_isMinutes x = 0) : (h_X4_passMinutes S x).1 = (h_X7_minutesOn g x).1 ∧ RS (h_X4_passMinutes S x).2 (h_X7_minutesOn g x).2 ∧ ∃ n, n < 2 ^ 31 ∧ (h_X7_minutesOn g x).1 = nI n := by
  obtain ⟨a, b, c⟩ := minutes_all h.1 h.2 hx
  refine ⟨a, ⟨b, c⟩, ?_⟩
  obtain ⟨m, m1, m60, rfl⟩ := min_range hx
  rw [h_X7_minutesOn, nI_clamp (by omega)]
  obtain ⟨y, hy, ey⟩ := mins_n (show m < 2 ^ 31 by omega) (m + 1) 0 0 S g h.1 h.2
  exact ⟨y, by omega, ey⟩
/-- one turn of a simulation -/
theorem turn_eq {S : St} {g : Rw} (h : RS S g) {q : Nat} (hq : q < 2 ^ 31) : RS (h_X3_doTurn S (nI q)) (h_X7_turnOf g (nI (q % 8)) (q / 8)) := by
  have e8 : nI q - nI q / 8 * 8 = nI (q % 8) := pk_rem (d := 8) hq (by omega) (by omega)
  have d8 : nI q / 8 = nI (q / 8) := pk_div (d := 8) hq (by omega) (by omega)
  rw [h_X3_doTurn, e8, d8]
  generalize hr : q / 8 = r
  have hr1 : r < 2 ^ 28 := by omega
  have e7 : (2 : Int32) + (nI r - nI r / 7 * 7) = nI (2 + r % 7) := by
    rw [show nI r - nI r / 7 * 7 = nI (r % 7) from pk_rem (d := 7) (by omega) (by omega) (by omega)]
    exact nI_add 2 _
  have e30 : (1 : Int32) + (nI r / 8 - nI r / 8 / 30 * 30) = nI (1 + (r / 8) % 30) := by
    rw [show nI r / 8 = nI (r / 8) from pk_div (d := 8) (by omega) (by omega) (by omega), show nI (r / 8) - nI (r / 8) / 30 * 30 = nI (r / 8 % 30) from pk_rem (d := 30) (by omega) (by omega) (by omega)]
    exact nI_add 1 _
  have e40 : nI r - nI r / 40 * 40 = nI (r % 40) := pk_rem (d := 40) (by omega) (by omega) (by omega)
  have e80 : nI r - nI r / 80 * 80 = nI (r % 80) := pk_rem (d := 80) (by omega) (by omega) (by omega)
  have e3 : nI r / 128 - nI r / 128 / 3 * 3 = nI (r / 128 % 3) := by
    rw [show nI r / 128 = nI (r / 128) from pk_div (d := 128) (by omega) (by omega) (by omega)]
    exact pk_rem (d := 3) (by omega) (by omega) (by omega)
  have e9 : (1 : Int32) + (nI r - nI r / 9 * 9) = nI (1 + r % 9) := by
    rw [show nI r - nI r / 9 * 9 = nI (r % 9) from pk_rem (d := 9) (by omega) (by omega) (by omega)]
    exact nI_add 1 _
  have e2 : nI r / 4 - nI r / 4 / 2 * 2 = nI (r / 4 % 2) := by
    rw [show nI r / 4 = nI (r / 4) from pk_div (d := 4) (by omega) (by omega) (by omega)]
    exact pk_rem (d := 2) (by omega) (by omega) (by omega)
  have e33 : nI r - nI r / 3 * 3 = nI (r % 3) := pk_rem (d := 3) (by omega) (by omega) (by omega)
  have e5 : nI r / 8 - nI r / 8 / 5 * 5 = nI (r / 8 % 5) := by
    rw [show nI r / 8 = nI (r / 8) from pk_div (d := 8) (by omega) (by omega) (by omega)]
    exact pk_rem (d := 5) (by omega) (by omega) (by omega)
  have hcome : RS (h_X4_arrive S (nI (2 + r % 7)) (nI (1 + (r / 8) % 30))).2 (if 40 ≤ g 0 then g else (h_X7_comeOn g (nI (2 + r % 7)) (nI (1 + (r / 8) % 30))).2) := by
    by_cases c : (40 : Int32) ≤ g 0
    · rw [if_pos c, come_no h c]; exact h
    · rw [if_neg c]
      refine (come_yes h c ?_ ?_).2.1
      · rw [← length_eq, f_X6_isLength, if_neg (show ¬ nI (2 + r % 7) < 2 from fun z => by
          have := (nI_ltI (b := 2) (by omega) (by omega)).mp z
          omega), if_neg (show ¬ (8 : Int32) < nI (2 + r % 7) from fun z => by
          have := (nI_ltI (a := 8) (by omega) (by omega)).mp z
          omega)]
        decide
      · rw [f_X6_isStay, if_neg (show ¬ nI (1 + (r / 8) % 30) < 1 from fun z => by
          have := (nI_ltI (b := 1) (by omega) (by omega)).mp z
          omega), if_neg (show ¬ (99 : Int32) < nI (1 + (r / 8) % 30) from fun z => by
          have := (nI_ltI (a := 99) (by omega) (by omega)).mp z
          omega)]
        decide
  have hhyd : ∀ on : Int32, RS (h_X4_putHydrant S (nI (r % 80)) on).2 (if f_X7_canHydrant g (nI (r % 80)) on = 0 then g else (h_X7_hydrantOn g (r % 80) on).2) := fun on => by
    by_cases c : f_X7_canHydrant g (nI (r % 80)) on = 0
    · rw [if_pos c, hyd_no h c]; exact h
    · rw [if_neg c]
      have q := (hyd_yes h c).2.1
      rw [nI_clamp (by omega)] at q
      exact q
  have hchg : ∀ (w v : Nat), (w = 0 ∧ v < 3) ∨ (w = 1 ∧ v < 5) → RS (h_X4_changeSetting S (nI w) (nI v)).2 (h_X7_change g w (nI v)).2 := fun w v hv => by
    refine (chg_yes h (by omega) ?_).2.1
    rw [← setting_eq, f_X6_isSettingValue]
    rcases hv with ⟨rfl, hv⟩ | ⟨rfl, hv⟩
    · rw [if_pos (show nI 0 = 0 by decide), if_neg (nI_pos (by omega)), if_neg (show ¬ (2 : Int32) < nI v from fun z => by
        have := (nI_ltI (a := 2) (by omega) (by omega)).mp z
        omega)]
      decide
    · rw [if_neg (by decide), if_pos (show nI 1 = 1 by decide), if_neg (nI_pos (by omega)), if_neg (show ¬ (4 : Int32) < nI v from fun z => by
        have := (nI_ltI (a := 4) (by omega) (by omega)).mp z
        omega)]
      decide
  have hmin : RS (h_X4_passMinutes S (nI (1 + r % 9))).2 (h_X7_minutesOn g (nI (1 + r % 9))).2 := by
    refine (min_yes h ?_).2.1
    rw [f_X6_isMinutes, if_neg (show ¬ nI (1 + r % 9) < 1 from fun z => by
      have := (nI_ltI (b := 1) (by omega) (by omega)).mp z
      omega), if_neg (show ¬ (60 : Int32) < nI (1 + r % 9) from fun z => by
      have := (nI_ltI (a := 60) (by omega) (by omega)).mp z
      omega)]
    decide
  rw [e7, e30, e40, e80, e3, e9, h_X3_changeRuleOrRoom, e2, e33, e5, h_X7_turnOf]
  have h8 : q % 8 < 8 := Nat.mod_lt _ (by omega)
  rcases (show q % 8 = 0 ∨ q % 8 = 1 ∨ q % 8 = 2 ∨ q % 8 = 3 ∨ q % 8 = 4 ∨ q % 8 = 5 ∨ q % 8 = 6 ∨ q % 8 = 7 by omega) with e | e | e | e | e | e | e | e
  · rw [e, if_pos (show nI 0 = 0 by decide), if_neg (show ¬ (3 : Int32) ≤ nI 0 by decide)]; exact hcome
  · rw [e, if_neg (show ¬ nI 1 = 0 by decide), if_pos (show nI 1 = 1 by decide), if_neg (show ¬ (3 : Int32) ≤ nI 1 by decide)]; exact hcome
  · rw [e, if_neg (show ¬ nI 2 = 0 by decide), if_neg (show ¬ nI 2 = 1 by decide), if_pos (show nI 2 = 2 by decide), if_neg (show ¬ (3 : Int32) ≤ nI 2 by decide)]; exact hcome
  · rw [e, if_neg (show ¬ nI 3 = 0 by decide), if_neg (show ¬ nI 3 = 1 by decide), if_neg (show ¬ nI 3 = 2 by decide), if_pos (show nI 3 = 3 by decide), if_pos (show (3 : Int32) ≤ nI 3 by decide), if_pos (show nI 3 = 3 by decide)]
    by_cases c : f_X7_isParked g (nI (r % 40)) = 0
    · rw [if_pos c, dep_no h 2 c]; exact h
    · rw [if_neg c]
      have q := (dep_yes h (sta := 2) c (by decide) (by decide) (Or.inl rfl)).2.1
      rw [nI_clamp (by omega)] at q
      exact q
  · rw [e, if_neg (show ¬ nI 4 = 0 by decide), if_neg (show ¬ nI 4 = 1 by decide), if_neg (show ¬ nI 4 = 2 by decide), if_neg (show ¬ nI 4 = 3 by decide), if_pos (show nI 4 = 4 by decide), if_pos (show (3 : Int32) ≤ nI 4 by decide), if_neg (show ¬ nI 4 = 3 by decide), if_pos (show nI 4 = 4 by decide)]
    by_cases c : nI (r / 128 % 3) = 0
    · rw [if_pos c, if_pos c]; exact hhyd 0
    · rw [if_neg c, if_neg c]; exact hhyd 1
  · rw [e, if_neg (show ¬ nI 5 = 0 by decide), if_neg (show ¬ nI 5 = 1 by decide), if_neg (show ¬ nI 5 = 2 by decide), if_neg (show ¬ nI 5 = 3 by decide), if_neg (show ¬ nI 5 = 4 by decide), if_pos (show nI 5 = 5 by decide), if_pos (show (3 : Int32) ≤ nI 5 by decide), if_neg (show ¬ nI 5 = 3 by decide), if_neg (show ¬ nI 5 = 4 by decide), if_pos (show nI 5 ≤ 5 by decide)]
    by_cases c : nI (r / 4 % 2) = 0
    · rw [if_pos c, if_pos c]; exact hchg 0 _ (Or.inl ⟨rfl, by omega⟩)
    · rw [if_neg c, if_neg c]; exact hchg 1 _ (Or.inr ⟨rfl, by omega⟩)
  · rw [e, if_neg (show ¬ nI 6 = 0 by decide), if_neg (show ¬ nI 6 = 1 by decide), if_neg (show ¬ nI 6 = 2 by decide), if_neg (show ¬ nI 6 = 3 by decide), if_neg (show ¬ nI 6 = 4 by decide), if_neg (show ¬ nI 6 = 5 by decide), if_pos (show (3 : Int32) ≤ nI 6 by decide), if_neg (show ¬ nI 6 = 3 by decide), if_neg (show ¬ nI 6 = 4 by decide), if_neg (show ¬ nI 6 ≤ 5 by decide)]; exact hmin
  · rw [e, if_neg (show ¬ nI 7 = 0 by decide), if_neg (show ¬ nI 7 = 1 by decide), if_neg (show ¬ nI 7 = 2 by decide), if_neg (show ¬ nI 7 = 3 by decide), if_neg (show ¬ nI 7 = 4 by decide), if_neg (show ¬ nI 7 = 5 by decide), if_pos (show (3 : Int32) ≤ nI 7 by decide), if_neg (show ¬ nI 7 = 3 by decide), if_neg (show ¬ nI 7 = 4 by decide), if_neg (show ¬ nI 7 ≤ 5 by decide)]; exact hmin
