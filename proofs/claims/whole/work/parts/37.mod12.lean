theorem mins_lp (x : Int32) : ∀ (n k : Nat) (acc : Int32) (g : Rw), RI g → RI (lp_rMin x n k acc g).2 := by
  intro n
  induction n with
  | zero => intro k acc g h; exact h
  | succ n ih =>
    intro k acc g h
    rw [lp_rMin]
    split
    · exact h
    · exact ih _ _ _ (minute_ok h).1
theorem RI_mins {g : Rw} (h : RI g) (x : Int32) : RI (h_X7_minutesOn g x).2 := mins_lp x _ _ _ g h
theorem cell_RC {g : Rw} {i c w : Nat} (v : Int32) (h : i < 87) : f_X7_of (upd g i v) c w = f_X7_of g c w := of_upd g v h
theorem RI_cell {g : Rw} (h : RI g) {x : Nat} (hx : x < 80) (v : Int32) : RI (upd g (7 + x) v) :=
  RI_same h (pk_un (by omega)) (pk_un (by omega)) fun d _ r => RC_same r (of_upd _ _ (by omega)) (of_upd _ _ (by omega)) (of_upd _ _ (by omega))
theorem RI_hyd {g : Rw} (h : RI g) {x : Nat} (hx : x < 80) (on : Int32) : RI (h_X7_hydrantOn g x on).2 := by
  rw [h_X7_hydrantOn]
  repeat' split
  all_goals exact RI_cell h hx _
theorem RI_set {g : Rw} (h : RI g) {w : Nat} (hw : w < 3) (v : Int32) (h1 : w = 1 → ∃ r, r ≤ 4 ∧ v = nI r) : RI (upd g (2 + w) v) := by
  obtain ⟨a, b, d⟩ := h
  have e0 : upd g (2 + w) v 0 = g 0 := pk_un (by omega)
  have e : gm (upd g (2 + w) v) = gm g := by rw [gm, e0, gm]
  refine ⟨by rw [e0]; exact a, ?_, fun c hc => RC_same (d c (by rw [← e]; exact hc)) (of_upd _ _ (by omega)) (of_upd _ _ (by omega)) (of_upd _ _ (by omega))⟩
  by_cases c : w = 1
  · subst c
    obtain ⟨r, hr, ev⟩ := h1 rfl
    exact ⟨r, hr, pk_us.trans ev⟩
  · rw [show upd g (2 + w) v 3 = g 3 from pk_un (by omega)]
    exact b
theorem RI_chg {g : Rw} (h : RI g) {w : Nat} (hw : w < 3) (v : Int32) (h1 : w = 1 → ∃ r, r ≤ 4 ∧ v = nI r) : RI (h_X7_change g w v).2 := RI_set h hw v h1
theorem lay_hi (g : Rw) {c w i : Nat} (v : Int32) (h : i ≠ 87 + 6 * c + w) : h_X7_lay g c w v i = g i := by rw [h_X7_lay, pk_un h]
/-- the row of a car that comes -/
abbrev cw6 (g : Rw) (c : Nat) (len stay : Int32) : Rw := h_X7_lay (h_X7_lay (h_X7_lay (h_X7_lay (h_X7_lay (h_X7_lay g c 0 len) c 1 stay) c 2 1) c 3 (-1)) c 4 0) c 5 0
theorem cw6_lo (g : Rw) (c : Nat) (len stay : Int32) {i : Nat} (h : i < 87) : cw6 g c len stay i = g i := by
  rw [cw6, lay_lo _ _ h, lay_lo _ _ h, lay_lo _ _ h, lay_lo _ _ h, lay_lo _ _ h, lay_lo _ _ h]
theorem cw6_ne (g : Rw) {c d : Nat} (len stay : Int32) {w : Nat} (hw : w < 6) (h : d ≠ c) : f_X7_of (cw6 g c len stay) d w = f_X7_of g d w := by
  rw [cw6]
  rw [of_lay_ne _ _ (by omega) hw (Or.inl (Ne.symm h)), of_lay_ne _ _ (by omega) hw (Or.inl (Ne.symm h)), of_lay_ne _ _ (by omega) hw (Or.inl (Ne.symm h)), of_lay_ne _ _ (by omega) hw (Or.inl (Ne.symm h)), of_lay_ne _ _ (by omega) hw (Or.inl (Ne.symm h)), of_lay_ne _ _ (by omega) hw (Or.inl (Ne.symm h))]
theorem cw6_0 (g : Rw) (c : Nat) (len stay : Int32) : f_X7_of (cw6 g c len stay) c 0 = len := by
  rw [cw6, of_lay_ne _ _ (by omega) (by omega) (Or.inr (by omega)), of_lay_ne _ _ (by omega) (by omega) (Or.inr (by omega)), of_lay_ne _ _ (by omega) (by omega) (Or.inr (by omega)), of_lay_ne _ _ (by omega) (by omega) (Or.inr (by omega)), of_lay_ne _ _ (by omega) (by omega) (Or.inr (by omega)), of_lay_eq]
theorem cw6_2 (g : Rw) (c : Nat) (len stay : Int32) : f_X7_of (cw6 g c len stay) c 2 = 1 := by
  rw [cw6, of_lay_ne _ _ (by omega) (by omega) (Or.inr (by omega)), of_lay_ne _ _ (by omega) (by omega) (Or.inr (by omega)), of_lay_ne _ _ (by omega) (by omega) (Or.inr (by omega)), of_lay_eq]
theorem come_g1 {g : Rw} (h : RI g) (h40 : gm g < 40) (len stay : Int32) : (cw6 g (gm g) len stay) 0 + 1 = nI (gm g + 1) := by
  rw [cw6_lo _ _ _ _ (by omega), h.m.1, nI_1]
theorem RI_new {g : Rw} (h : RI g) (h40 : gm g < 40) {len stay : Int32} (hl : ∃ j, 2 ≤ j ∧ j ≤ 8 ∧ len = nI j) : RI (upd (cw6 g (gm g) len stay) 0 ((cw6 g (gm g) len stay) 0 + 1)) ∧ gm (upd (cw6 g (gm g) len stay) 0 ((cw6 g (gm g) len stay) 0 + 1)) = gm g + 1 := by
  have e0 : upd (cw6 g (gm g) len stay) 0 ((cw6 g (gm g) len stay) 0 + 1) 0 = nI (gm g + 1) := pk_us.trans (come_g1 h h40 len stay)
  have e : gm (upd (cw6 g (gm g) len stay) 0 ((cw6 g (gm g) len stay) 0 + 1)) = gm g + 1 := by rw [gm, e0, nI_clamp (by omega)]
  refine ⟨⟨⟨gm g + 1, by omega, e0⟩, ?_, fun c hc => ?_⟩, e⟩
  · rw [show upd (cw6 g (gm g) len stay) 0 ((cw6 g (gm g) len stay) 0 + 1) 3 = g 3 from (pk_un (by omega)).trans (cw6_lo _ _ _ _ (by omega))]
    exact h.2.1
  · rw [e] at hc
    by_cases ec : c = gm g
    · subst ec
      obtain ⟨j, h2, h8, ej⟩ := hl
      refine ⟨⟨j, h2, h8, ?_⟩, fun z => ?_⟩
      · rw [of_upd _ _ (by omega), cw6_0, ej]
      · rw [of_upd _ _ (by omega), cw6_2] at z
        exact absurd z (by decide)
    · exact RC_same (h.2.2 c (by omega)) (by rw [of_upd _ _ (by omega), cw6_ne _ _ _ (by omega) ec]) (by rw [of_upd _ _ (by omega), cw6_ne _ _ _ (by omega) ec]) (by rw [of_upd _ _ (by omega), cw6_ne _ _ _ (by omega) ec])
theorem RI_come {g : Rw} (h : RI g) (h40 : gm g < 40) {len stay : Int32} (hl : ∃ j, 2 ≤ j ∧ j ≤ 8 ∧ len = nI j) : RI (h_X7_comeOn g len stay).2 := by
  rw [h_X7_comeOn]
  have q := RI_new h h40 hl (stay := stay)
  exact RI_parks q.1 (by rw [q.2]; omega)
theorem RI_moveOn {g : Rw} (h : RI g) {c x : Nat} (hc : c < gm g) (hp : f_X7_of g c 2 = 0) (hx : x + pj g c ≤ 80) : RI (h_X7_moveOn g c x).2 := by
  have q := h.X hc hp
  have m := h.m.2
  have r0 := RI_fill (v := (-1)) h q.2.2
  have r : RI (h_X7_lay (h_X7_fill (h_X7_fill g (px g c) (pj g c) (-1)) x (pj g c) (nI c)) c 3 (nI x)) := by
    have r1 := RI_fill (v := nI c) r0 hx
    refine RI_same r1 (lay_lo _ _ (by omega)) (lay_lo _ _ (by omega)) fun d hd r => ?_
    by_cases e : d = c
    · subst e
      have f0 : f_X7_of (h_X7_lay (h_X7_fill (h_X7_fill g (px g d) (pj g d) (-1)) x (pj g d) (nI d)) d 3 (nI x)) d 0 = f_X7_of g d 0 := by rw [of_lay_ne _ _ (by omega) (by omega) (Or.inr (by omega)), of_fill _ _ hx, of_fill _ _ q.2.2]
      have ep : pj (h_X7_lay (h_X7_fill (h_X7_fill g (px g d) (pj g d) (-1)) x (pj g d) (nI d)) d 3 (nI x)) d = pj g d := by rw [pj, f0, pj]
      refine ⟨by rw [f0]; exact (h.2.2 d hc).1, fun _ => ⟨x, of_lay_eq _ _ _ _, by rw [ep]; exact hx⟩⟩
    · exact RC_same r (of_lay_ne _ _ (by omega) (by omega) (Or.inl (Ne.symm e))) (of_lay_ne _ _ (by omega) (by omega) (Or.inl (Ne.symm e))) (of_lay_ne _ _ (by omega) (by omega) (Or.inl (Ne.symm e)))
  rw [h_X7_moveOn]
  split <;> exact r
theorem car_lt {g : Rw} {c : Nat} (h : RI g) (hc : c < 2 ^ 31) (hi : ¬ f_X7_isCar g (nI c) = 0) : c < gm g := by
  have hm := h.m
  obtain ⟨j, hj, e⟩ := car_n hm.1 hm.2 hi
  rw [nI_eq hc (by omega)] at e
  omega
theorem cell_lt {x : Nat} (hx : x < 2 ^ 31) (h : ¬ f_X7_isCell (nI x) = 0) : x < 80 := by
  obtain ⟨j, hj, e⟩ := rcell_n h
  rw [nI_eq hx (by omega)] at e
  omega
theorem hyd_n {g : Rw} {x on : Int32} (h : ¬ f_X7_canHydrant g x on = 0) : ∃ j, j < 80 ∧ x = nI j := by
  refine rcell_n fun z => h ?_
  rw [f_X7_canHydrant, if_pos z]
theorem hyd_lt {g : Rw} {x : Nat} {on : Int32} (hx : x < 2 ^ 31) (h : ¬ f_X7_canHydrant g (nI x) on = 0) : x < 80 := by
  obtain ⟨j, hj, e⟩ := hyd_n h
  rw [nI_eq hx (by omega)] at e
  omega
theorem set_lt {w : Nat} {v : Int32} (hw : w < 2 ^ 31) (h : ¬ f_X7_isSetting (nI w) v = 0) : w < 3 := by
  obtain ⟨j, hj, e⟩ := set_w h
  rw [nI_eq hw (by omega)] at e
  omega
theorem mv_all {g : Rw} {c x : Nat} (h : RI g) (hc : c < 40) (hx : x < 80) (hm : ¬ f_X7_canMove g c x = 0) : f_X7_of g c 3 = nI (px g c) ∧ f_X7_of g c 0 = nI (pj g c) ∧ px g c + pj g c ≤ 80 ∧ x + pj g c ≤ 80 := by
  have q := mv_ok h hc hx hm
  have r := h.X q.1 q.2.1
  exact ⟨r.1, r.2.1, r.2.2, q.2.2⟩
theorem len_2e {x : Int32} (h : ¬ f_X7_isLength x = 0) : ∃ j, 2 ≤ j ∧ j ≤ 8 ∧ x = nI j := ⟨_, len_2 h⟩
theorem in_nat2 {x : Int32} {lo hi : Int64} {a : Nat} (hlo : 0 ≤ lo.toInt) (hhi : hi.toInt = a) (h : ¬ f_X7_in x.toInt64 lo hi = 0) : ∃ j, j ≤ a ∧ x = nI j := by
  have h1 := in_ne h
  rw [i64, hhi] at h1
  obtain ⟨j, hj, rfl⟩ := nI_of (x := x) (by rw [Int32.lt_iff_toInt_lt, Int32.toInt_zero]; omega)
  rw [nI_toInt hj] at h1
  exact ⟨j, by omega, rfl⟩
theorem set_room {w : Nat} {v : Int32} (h : ¬ f_X7_isSetting (nI w) v = 0) (hw : w = 1) : ∃ r, r ≤ 4 ∧ v = nI r := by
  subst hw
  rw [f_X7_isSetting] at h
  by_cases c : f_X7_in v.toInt64 0 4 = 0
  · rw [if_neg (by decide), if_pos (by decide), if_pos c, if_neg (by decide)] at h
    exact absurd rfl h
  · exact in_nat2 (by decide) (by decide) c

def h_X7_command (M : Mo) (how : Int32) (q : Nat) : Int32 × Mo :=
  if how = 1 then (if 2 ≤ (nI (q % 100)) then (0, M) else
    if (f_X7_isLength (nI (q / 10000))) = 0 then (0, M) else
    if (f_X7_in ((nI ((q / 100) % 100)).toInt64) 1 99) = 0 then (0, M) else
    if 40 ≤ ((mR M) 0) then (0, M) else
    if (nI (q % 100)) = 1 then (if (f_X7_isParked (mR (oR M ((h_X7_comeOn (mR M) (nI (q / 10000)) (nI ((q / 100) % 100))).2))) ((h_X7_comeOn (mR M) (nI (q / 10000)) (nI ((q / 100) % 100))).1)) = 1 then (1, (oR M ((h_X7_comeOn (mR M) (nI (q / 10000)) (nI ((q / 100) % 100))).2))) else
      (0, (oR M ((h_X7_comeOn (mR M) (nI (q / 10000)) (nI ((q / 100) % 100))).2)))) else
    if (f_X7_isParked (mR (oR M ((h_X7_comeOn (mR M) (nI (q / 10000)) (nI ((q / 100) % 100))).2))) ((h_X7_comeOn (mR M) (nI (q / 10000)) (nI ((q / 100) % 100))).1)) = 0 then (1, (oR M ((h_X7_comeOn (mR M) (nI (q / 10000)) (nI ((q / 100) % 100))).2))) else
    (0, (oR M ((h_X7_comeOn (mR M) (nI (q / 10000)) (nI ((q / 100) % 100))).2)))) else
  if how = 2 then (if (nI (q % 1000)) = 0 then (if (f_X7_isParked (mR M) (nI (q / 1000))) = 0 then (0, M) else
      if ((h_X7_goes (mR M) (q / 1000) 2).1) < 0 then (0, (oR M ((h_X7_goes (mR M) (q / 1000) 2).2))) else
      (1, (oR M ((h_X7_goes (mR M) (q / 1000) 2).2)))) else
    (0, M)) else
  if how = 3 then (if (nI (q % 10)) = 0 then (if (f_X7_isCar (mR M) (nI (q / 1000))) = 0 then (0, M) else
      if (f_X7_isCell (nI ((q / 10) % 100))) = 0 then (0, M) else
      if (f_X7_canMove (mR M) (q / 1000) ((q / 10) % 100)) = 0 then (0, M) else
      if ((h_X7_moveOn (mR M) (q / 1000) ((q / 10) % 100)).1) < 0 then (0, (oR M ((h_X7_moveOn (mR M) (q / 1000) ((q / 10) % 100)).2))) else
      (1, (oR M ((h_X7_moveOn (mR M) (q / 1000) ((q / 10) % 100)).2)))) else
    (0, M)) else
  if how = 4 then (if (f_X7_in ((nI q).toInt64) 1 60) = 0 then (0, M) else
    if ((h_X7_minutesOn (mR M) (nI q)).1) < 0 then (0, (oR M ((h_X7_minutesOn (mR M) (nI q)).2))) else
    (1, (oR M ((h_X7_minutesOn (mR M) (nI q)).2)))) else
  if how = 5 then (if (nI ((q / 1000) % 10)) = 0 then (if (nI (q % 10)) = 0 then (if (f_X7_isSetting (nI (q / 10000)) (nI ((q / 10) % 100))) = 0 then (0, M) else
        if ((h_X7_change (mR M) (q / 10000) (nI ((q / 10) % 100))).1) < 0 then (0, (oR M ((h_X7_change (mR M) (q / 10000) (nI ((q / 10) % 100))).2))) else
        (1, (oR M ((h_X7_change (mR M) (q / 10000) (nI ((q / 10) % 100))).2)))) else
      (0, M)) else
    (0, M)) else
  if how = 6 then (if 2 ≤ (nI (q % 1000)) then (0, M) else
    if (nI (q % 1000)) = 1 then (if (f_X7_canHydrant (mR M) (nI (q / 1000)) 1) = 0 then (0, M) else
      if ((h_X7_hydrantOn (mR M) (q / 1000) 1).1) < 0 then (0, (oR M ((h_X7_hydrantOn (mR M) (q / 1000) 1).2))) else
      (1, (oR M ((h_X7_hydrantOn (mR M) (q / 1000) 1).2)))) else
    if (f_X7_canHydrant (mR M) (nI (q / 1000)) 0) = 0 then (0, M) else
    if ((h_X7_hydrantOn (mR M) (q / 1000) 0).1) < 0 then (0, (oR M ((h_X7_hydrantOn (mR M) (q / 1000) 0).2))) else
    (1, (oR M ((h_X7_hydrantOn (mR M) (q / 1000) 0).2)))) else
  if how = 7 then (if 10 ≤ (nI (q % 10000)) then (0, M) else
    if (f_X7_isLength (nI (q / 10000))) = 0 then (0, M) else
    if (f_X7_reason (mR M) (nI (q / 10000))) = (nI (q % 10)) then (1, M) else
    (0, M)) else
  if how = 8 then (if 10 ≤ (nI (q % 1000)) then (0, M) else
    if (f_X7_isCar (mR M) (nI (q / 1000))) = 0 then (0, M) else
    if (f_X7_of (mR M) (q / 1000) 2) = (nI (q % 10)) then (1, M) else
    (0, M)) else
  if how = 9 then (if 100 ≤ (nI (q % 10000)) then (0, M) else
    if (f_X7_isLength (nI (q / 10000))) = 0 then (0, M) else
    if (f_X7_fitsIn (mR M) (nI (q / 10000))) < (nI (q % 100)) then (0, M) else
    (1, M)) else
  (0, M)
set_option maxHeartbeats 40000000 in
set_option maxRecDepth 100000 in
theorem c_X7_command (l : Launch) (G : GG) (b : Nat) (M : Mo) (how : Int32) (q : Nat) (hRI : RI (mR M)) (hq : q < 100000) : Met l yX7_command wsX7_command ({ frames := 7, cells := 0, slots := 0, locals := 158 }) (PcH G [.ref b, .int how, .int (nI q)] (Md G b M)) (QM (some (.int ((h_X7_command M how q).1))) (Md G b ((h_X7_command M how q).2)) (blk b (b + 8))) 0 0 (blk b (b + 8)) := by
  refine metH (cc := cX7_command) (maxL := 10) (ret := (some .boolean)) (by decide) rfl ?_
  intro p e s m below meth cd hx hb hr hml hown hts hlocks hP hO
  have hin7 : ∀ w ∈ u_ws RX7 TX7 12, w ∈ wsX7_command := by decide +kernel
  have hf_16 := hts (.fieldLink RX7 16 "CurbCarsModel" "trial" "[I") (by decide +kernel)
  have hA : ∀ q, (blk b (b + 8)) q → (blk b (b + 8)) q := fun _ h => h
  have hS : va_S (blk b (b + 8)) s.heap s.heap [] := va_S.rf
  have hl := lv_entry ([.ref b, .int how, .int (nI q)]) (n := 10) (Nat.le_of_ble_eq_true rfl)
  rw [lg_entry_eq]
  generalize (lg_sl ([.ref b, .int how, .int (nI q)]) ++ List.replicate (10 - (lg_sl ([.ref b, .int how, .int (nI q)])).length) Slot.unset).toArray = ls at hl ⊢
  have hl : lv_has ls 10 [(0, .ref b), (1, .int how), (2, .int (nI q))] := hl
  refine lv_iload_n hx hb dX7_command_0 rfl (lv_at hl 2 rfl) ?_
  refine lv_sipush (v := 10000) hx hb dX7_command_1 (by decide) ?_
  refine idiv_n (a := q) (b := 10000) hx hb ⟨by omega, by omega, by omega⟩ dX7_command_4 ?_
  refine lv_istore_n (lv' := [(3, .int (nI (q / 10000))), (0, .ref b), (1, .int how), (2, .int (nI q))]) hx hb dX7_command_5 rfl hl (by decide) rfl (fun ls hl => ?_)
  refine lv_iload_n hx hb dX7_command_6 rfl (lv_at hl 3 rfl) ?_
  refine lv_sipush (v := 1000) hx hb dX7_command_7 (by decide) ?_
  refine idiv_n (a := q) (b := 1000) hx hb ⟨by omega, by omega, by omega⟩ dX7_command_10 ?_
  refine lv_istore (lv' := [(4, .int (nI (q / 1000))), (3, .int (nI (q / 10000))), (0, .ref b), (1, .int how), (2, .int (nI q))]) hx hb dX7_command_11 hl (by decide) rfl (fun ls hl => ?_)
  refine lv_iload_n hx hb dX7_command_13 rfl (lv_at hl 4 rfl) ?_
  refine lv_bipush (v := 100) hx hb dX7_command_14 (by decide) ?_
  refine idiv_n (a := q) (b := 100) hx hb ⟨by omega, by omega, by omega⟩ dX7_command_16 ?_
  refine lv_bipush (v := 100) hx hb dX7_command_17 (by decide) ?_
  refine irem_n (a := q / 100) (b := 100) hx hb ⟨by omega, by omega, by omega⟩ dX7_command_19 ?_
  refine lv_istore (lv' := [(5, .int (nI ((q / 100) % 100))), (4, .int (nI (q / 1000))), (3, .int (nI (q / 10000))), (0, .ref b), (1, .int how), (2, .int (nI q))]) hx hb dX7_command_20 hl (by decide) rfl (fun ls hl => ?_)
  refine lv_iload_n hx hb dX7_command_22 rfl (lv_at hl 5 rfl) ?_
  refine lv_bipush (v := 10) hx hb dX7_command_23 (by decide) ?_
  refine idiv_n (a := q) (b := 10) hx hb ⟨by omega, by omega, by omega⟩ dX7_command_25 ?_
  refine lv_bipush (v := 100) hx hb dX7_command_26 (by decide) ?_
  refine irem_n (a := q / 10) (b := 100) hx hb ⟨by omega, by omega, by omega⟩ dX7_command_28 ?_
  refine lv_istore (lv' := [(6, .int (nI ((q / 10) % 100))), (5, .int (nI ((q / 100) % 100))), (4, .int (nI (q / 1000))), (3, .int (nI (q / 10000))), (0, .ref b), (1, .int how), (2, .int (nI q))]) hx hb dX7_command_29 hl (by decide) rfl (fun ls hl => ?_)
  refine lv_iload_n hx hb dX7_command_31 rfl (lv_at hl 6 rfl) ?_
  refine lv_bipush (v := 10) hx hb dX7_command_32 (by decide) ?_
  refine irem_n (a := q) (b := 10) hx hb ⟨by omega, by omega, by omega⟩ dX7_command_34 ?_
  refine lv_istore (lv' := [(7, .int (nI (q % 10))), (6, .int (nI ((q / 10) % 100))), (5, .int (nI ((q / 100) % 100))), (4, .int (nI (q / 1000))), (3, .int (nI (q / 10000))), (0, .ref b), (1, .int how), (2, .int (nI q))]) hx hb dX7_command_35 hl (by decide) rfl (fun ls hl => ?_)
  refine lv_iload_n hx hb dX7_command_37 rfl (lv_at hl 7 rfl) ?_
  refine lv_bipush (v := 100) hx hb dX7_command_38 (by decide) ?_
  refine irem_n (a := q) (b := 100) hx hb ⟨by omega, by omega, by omega⟩ dX7_command_40 ?_
  refine lv_istore (lv' := [(8, .int (nI (q % 100))), (7, .int (nI (q % 10))), (6, .int (nI ((q / 10) % 100))), (5, .int (nI ((q / 100) % 100))), (4, .int (nI (q / 1000))), (3, .int (nI (q / 10000))), (0, .ref b), (1, .int how), (2, .int (nI q))]) hx hb dX7_command_41 hl (by decide) rfl (fun ls hl => ?_)
  refine lv_iload_n hx hb dX7_command_43 rfl (lv_at hl 8 rfl) ?_
  refine lv_sipush (v := 1000) hx hb dX7_command_44 (by decide) ?_
  refine irem_n (a := q) (b := 1000) hx hb ⟨by omega, by omega, by omega⟩ dX7_command_47 ?_
  refine lv_istore (lv' := [(9, .int (nI (q % 1000))), (8, .int (nI (q % 100))), (7, .int (nI (q % 10))), (6, .int (nI ((q / 10) % 100))), (5, .int (nI ((q / 100) % 100))), (4, .int (nI (q / 1000))), (3, .int (nI (q / 10000))), (0, .ref b), (1, .int how), (2, .int (nI q))]) hx hb dX7_command_48 hl (by decide) rfl (fun ls hl => ?_)
  refine lv_iload_n hx hb dX7_command_50 rfl (lv_at hl 8 rfl) ?_
  by_cases c_1 : how = 1
  · refine lv_tableIn (off := 49) (tgt := 100) hx hb dX7_command_51 (by rw [c_1]; decide) (by rw [c_1]; decide) (by rw [c_1]; decide +kernel) (by decide) ?_
    refine lv_iload hx hb dX7_command_100 (lv_at hl 1 rfl) ?_
    refine lv_iconst (v := 2) hx hb dX7_command_102 (by decide) ?_
    refine lv_icmp_ge (tgt := 172) hx hb dX7_command_103 (by decide) (fun c_2 => ?_) (fun c_2 => ?_)
    · refine lv_iconst (v := 0) hx hb dX7_command_172 (by decide) ?_
      have hE : h_X7_command M how q = (0, M) := (by rw [h_X7_command, if_pos c_1, if_pos c_2])
      have hE2 := snd_of hE
      exact W.zret (ty := .boolean) hx hb hr rfl (fun t ht hW => ⟨by rw [fst_of hE], by rw [ht, hE2]; exact hP, hS.F ht⟩) hS.2.2 dX7_command_173
    · refine lv_iload_n hx hb dX7_command_106 rfl (lv_at hl 6 rfl) ?_
      refine cl_pi (rS (As := [.int (nI (q / 10000))]) (rest := []) ⟨hx, hb, hml, hown, hts⟩ (c_X7_isLength l G (nI (q / 10000))) (va_cwS 1 hts gX7_command_X7_isLength rfl rfl rfl (by decide +kernel) ⟨Nat.le_of_ble_eq_true rfl, Nat.le_of_ble_eq_true rfl⟩) trivial hO rfl hl.1 (Nat.le_of_ble_eq_true rfl) dX7_command_107 ⟨Nat.le_of_ble_eq_true rfl, Nat.le_of_ble_eq_true rfl⟩) ?_
      refine lv_if_eq (tgt := 172) hx hb dX7_command_110 (by decide) (fun c_3 => ?_) (fun c_3 => ?_)
      · refine lv_iconst (v := 0) hx hb dX7_command_172 (by decide) ?_
        have hE : h_X7_command M how q = (0, M) := (by rw [h_X7_command, if_pos c_1, if_neg c_2, if_pos c_3])
        have hE2 := snd_of hE
        exact W.zret (ty := .boolean) hx hb hr rfl (fun t ht hW => ⟨by rw [fst_of hE], by rw [ht, hE2]; exact hP, hS.F ht⟩) hS.2.2 dX7_command_173
      · refine lv_iload hx hb dX7_command_113 (lv_at hl 4 rfl) ?_
        refine lv_i2l (v := (nI ((q / 100) % 100)).toInt64) hx hb dX7_command_115 rfl ?_
        refine lv_lconst (v := 1) hx hb dX7_command_116 (by decide) ?_
        refine lv_ldc2 (v := 99) hx hb hown (hts (.constantLong RX7 224 (99)) (by decide +kernel)) dX7_command_117 ?_
        refine cl_pi (rS (As := [.long ((nI ((q / 100) % 100)).toInt64), .long 1, .long 99]) (rest := []) ⟨hx, hb, hml, hown, hts⟩ (c_X7_in l G ((nI ((q / 100) % 100)).toInt64) 1 99) (va_cwS 3 hts gX7_command_X7_in rfl rfl rfl (by decide +kernel) ⟨Nat.le_of_ble_eq_true rfl, Nat.le_of_ble_eq_true rfl⟩) trivial hO rfl hl.1 (Nat.le_of_ble_eq_true rfl) dX7_command_120 ⟨Nat.le_of_ble_eq_true rfl, Nat.le_of_ble_eq_true rfl⟩) ?_
        refine lv_if_eq (tgt := 172) hx hb dX7_command_123 (by decide) (fun c_4 => ?_) (fun c_4 => ?_)
        · refine lv_iconst (v := 0) hx hb dX7_command_172 (by decide) ?_
          have hE : h_X7_command M how q = (0, M) := (by rw [h_X7_command, if_pos c_1, if_neg c_2, if_neg c_3, if_pos c_4])
          have hE2 := snd_of hE
          exact W.zret (ty := .boolean) hx hb hr rfl (fun t ht hW => ⟨by rw [fst_of hE], by rw [ht, hE2]; exact hP, hS.F ht⟩) hS.2.2 dX7_command_173
        · refine lv_aload_n hx hb dX7_command_126 rfl (lv_at hl 7 rfl) ?_
          refine va_get (D := G.1) (ci := 5) (v := .ref (b + 3)) (C := RX7) (T := TX7) (N := 12) hx hb hts hin7 hown hO.1 hP 0 rfl rfl 4 (by decide) hf_16 (fun _ h9 => h9) rfl dX7_command_127 ?_
          refine lv_iconst (v := 0) hx hb dX7_command_130 (by decide) ?_
          refine iald_n (k := 0) hx hb hO.1 hP 3 0 rfl rfl (by omega) (by decide) dX7_command_131 ?_
          refine lv_bipush (v := 40) hx hb dX7_command_132 (by decide) ?_
          refine lv_icmp_ge (tgt := 172) hx hb dX7_command_134 (by decide) (fun c_5 => ?_) (fun c_5 => ?_)
          · refine lv_iconst (v := 0) hx hb dX7_command_172 (by decide) ?_
            have hE : h_X7_command M how q = (0, M) := (by rw [h_X7_command, if_pos c_1, if_neg c_2, if_neg c_3, if_neg c_4, if_pos c_5])
            have hE2 := snd_of hE
            exact W.zret (ty := .boolean) hx hb hr rfl (fun t ht hW => ⟨by rw [fst_of hE], by rw [ht, hE2]; exact hP, hS.F ht⟩) hS.2.2 dX7_command_173
          · refine lv_aload_n hx hb dX7_command_137 rfl (lv_at hl 7 rfl) ?_
            refine va_get (D := G.1) (ci := 5) (v := .ref (b + 3)) (C := RX7) (T := TX7) (N := 12) hx hb hts hin7 hown hO.1 hP 0 rfl rfl 4 (by decide) hf_16 (fun _ h9 => h9) rfl dX7_command_138 ?_
            refine lv_aload_n hx hb dX7_command_141 rfl (lv_at hl 7 rfl) ?_
            refine va_get (D := G.1) (ci := 5) (v := .ref (b + 3)) (C := RX7) (T := TX7) (N := 12) hx hb hts hin7 hown hO.1 hP 0 rfl rfl 4 (by decide) hf_16 (fun _ h9 => h9) rfl dX7_command_142 ?_
            refine lv_iload_n hx hb dX7_command_145 rfl (lv_at hl 6 rfl) ?_
            refine lv_iload hx hb dX7_command_146 (lv_at hl 4 rfl) ?_
            refine cl_mi (rS (As := [.ref (b + 3), .int (nI (q / 10000)), .int (nI ((q / 100) % 100))]) (rest := [.ref (b + 3)]) ⟨hx, hb, hml, hown, hts⟩ (c_X7_comeOn l G (b + 3) (mR M) (nI (q / 10000)) (nI ((q / 100) % 100)) hRI.m.1 (gm40 hRI (by assumption)) (len_n (by assumption)) hRI.2.1) (va_cwS 3 hts gX7_command_X7_comeOn rfl rfl rfl (by decide +kernel) ⟨Nat.le_of_ble_eq_true rfl, Nat.le_of_ble_eq_true rfl⟩) (va_P.sub hP [3] rfl) hO rfl hl.1 (Nat.le_of_ble_eq_true rfl) dX7_command_148 ⟨Nat.le_of_ble_eq_true rfl, Nat.le_of_ble_eq_true rfl⟩) hS (fun q h => hA q (by simp only [one, blk] at *; omega)) (fun H locs hP1 hz hk hS => ?_)
            have hP : Md G b (oR M ((h_X7_comeOn (mR M) (nI (q / 10000)) (nI ((q / 100) % 100))).2)) H := md_pR (mo_row 3 hP rfl hP1 hk)
            refine cl_pi (rS (As := [.ref (b + 3), .int ((h_X7_comeOn (mR M) (nI (q / 10000)) (nI ((q / 100) % 100))).1)]) (rest := []) ⟨hx, hb, hml, hown, hts⟩ (c_X7_isParked l G (b + 3) (mR (oR M ((h_X7_comeOn (mR M) (nI (q / 10000)) (nI ((q / 100) % 100))).2))) ((h_X7_comeOn (mR M) (nI (q / 10000)) (nI ((q / 100) % 100))).1) (RI.M (g := (h_X7_comeOn (mR M) (nI (q / 10000)) (nI (q / 100 % 100))).2) (RI_come hRI (gm40 hRI (by assumption)) (len_2e (by assumption))))) (va_cwS 2 hts gX7_command_X7_isParked rfl rfl rfl (by decide +kernel) ⟨Nat.le_of_ble_eq_true rfl, Nat.le_of_ble_eq_true rfl⟩) (va_P.sub hP [3] rfl) hO rfl hl.1 (Nat.le_of_ble_eq_true rfl) dX7_command_151 ⟨Nat.le_of_ble_eq_true rfl, Nat.le_of_ble_eq_true rfl⟩) ?_
            refine lv_iload hx hb dX7_command_154 (lv_at hl 1 rfl) ?_
            refine lv_iconst (v := 1) hx hb dX7_command_156 (by decide) ?_
            refine lv_icmp_ne (tgt := 164) hx hb dX7_command_157 (by decide) (fun c_6 => ?_) (fun c_6 => ?_)
            · refine lv_iconst (v := 0) hx hb dX7_command_164 (by decide) ?_
              refine lv_icmp_ne (tgt := 172) hx hb dX7_command_165 (by decide) (fun c_7 => ?_) (fun c_7 => ?_)
              · refine lv_iconst (v := 0) hx hb dX7_command_172 (by decide) ?_
                have hE : h_X7_command M how q = (0, (oR M ((h_X7_comeOn (mR M) (nI (q / 10000)) (nI ((q / 100) % 100))).2))) := (by rw [h_X7_command, if_pos c_1, if_neg c_2, if_neg c_3, if_neg c_4, if_neg c_5, if_neg c_6, if_neg c_7])
                have hE2 := snd_of hE
                exact W.zret (ty := .boolean) hx hb hr rfl (fun t ht hW => ⟨by rw [fst_of hE], by rw [ht, hE2]; exact hP, hS.F ht⟩) hS.2.2 dX7_command_173
              · refine lv_iconst (v := 1) hx hb dX7_command_168 (by decide) ?_
                refine lv_goto (tgt := 173) hx hb dX7_command_169 (by decide) ?_
                have hE : h_X7_command M how q = (1, (oR M ((h_X7_comeOn (mR M) (nI (q / 10000)) (nI ((q / 100) % 100))).2))) := (by rw [h_X7_command, if_pos c_1, if_neg c_2, if_neg c_3, if_neg c_4, if_neg c_5, if_neg c_6, if_pos c_7])
                have hE2 := snd_of hE
                exact W.zret (ty := .boolean) hx hb hr rfl (fun t ht hW => ⟨by rw [fst_of hE], by rw [ht, hE2]; exact hP, hS.F ht⟩) hS.2.2 dX7_command_173
            · refine lv_iconst (v := 1) hx hb dX7_command_160 (by decide) ?_
              refine lv_goto (tgt := 165) hx hb dX7_command_161 (by decide) ?_
              refine lv_icmp_ne (tgt := 172) hx hb dX7_command_165 (by decide) (fun c_8 => ?_) (fun c_8 => ?_)
              · refine lv_iconst (v := 0) hx hb dX7_command_172 (by decide) ?_
                have hE : h_X7_command M how q = (0, (oR M ((h_X7_comeOn (mR M) (nI (q / 10000)) (nI ((q / 100) % 100))).2))) := (by rw [h_X7_command, if_pos c_1, if_neg c_2, if_neg c_3, if_neg c_4, if_neg c_5, if_pos c_6, if_neg c_8])
                have hE2 := snd_of hE
                exact W.zret (ty := .boolean) hx hb hr rfl (fun t ht hW => ⟨by rw [fst_of hE], by rw [ht, hE2]; exact hP, hS.F ht⟩) hS.2.2 dX7_command_173
              · refine lv_iconst (v := 1) hx hb dX7_command_168 (by decide) ?_
                refine lv_goto (tgt := 173) hx hb dX7_command_169 (by decide) ?_
                have hE : h_X7_command M how q = (1, (oR M ((h_X7_comeOn (mR M) (nI (q / 10000)) (nI ((q / 100) % 100))).2))) := (by rw [h_X7_command, if_pos c_1, if_neg c_2, if_neg c_3, if_neg c_4, if_neg c_5, if_pos c_6, if_pos c_8])
                have hE2 := snd_of hE
                exact W.zret (ty := .boolean) hx hb hr rfl (fun t ht hW => ⟨by rw [fst_of hE], by rw [ht, hE2]; exact hP, hS.F ht⟩) hS.2.2 dX7_command_173
  by_cases c_9 : how = 2
  · refine lv_tableIn (off := 123) (tgt := 174) hx hb dX7_command_51 (by rw [c_9]; decide) (by rw [c_9]; decide) (by rw [c_9]; decide +kernel) (by decide) ?_
    refine lv_iload hx hb dX7_command_174 (lv_at hl 0 rfl) ?_
    refine lv_if_ne (tgt := 208) hx hb dX7_command_176 (by decide) (fun c_10 => ?_) (fun c_10 => ?_)
    · refine lv_iconst (v := 0) hx hb dX7_command_208 (by decide) ?_
      have hE : h_X7_command M how q = (0, M) := (by rw [h_X7_command, if_neg c_1, if_pos c_9, if_neg c_10])
      have hE2 := snd_of hE
      exact W.zret (ty := .boolean) hx hb hr rfl (fun t ht hW => ⟨by rw [fst_of hE], by rw [ht, hE2]; exact hP, hS.F ht⟩) hS.2.2 dX7_command_209
    · refine lv_aload_n hx hb dX7_command_179 rfl (lv_at hl 7 rfl) ?_
      refine va_get (D := G.1) (ci := 5) (v := .ref (b + 3)) (C := RX7) (T := TX7) (N := 12) hx hb hts hin7 hown hO.1 hP 0 rfl rfl 4 (by decide) hf_16 (fun _ h9 => h9) rfl dX7_command_180 ?_
      refine lv_iload hx hb dX7_command_183 (lv_at hl 5 rfl) ?_
      refine cl_pi (rS (As := [.ref (b + 3), .int (nI (q / 1000))]) (rest := []) ⟨hx, hb, hml, hown, hts⟩ (c_X7_isParked l G (b + 3) (mR M) (nI (q / 1000)) hRI.M) (va_cwS 2 hts gX7_command_X7_isParked rfl rfl rfl (by decide +kernel) ⟨Nat.le_of_ble_eq_true rfl, Nat.le_of_ble_eq_true rfl⟩) (va_P.sub hP [3] rfl) hO rfl hl.1 (Nat.le_of_ble_eq_true rfl) dX7_command_185 ⟨Nat.le_of_ble_eq_true rfl, Nat.le_of_ble_eq_true rfl⟩) ?_
      refine lv_if_eq (tgt := 208) hx hb dX7_command_188 (by decide) (fun c_11 => ?_) (fun c_11 => ?_)
      · refine lv_iconst (v := 0) hx hb dX7_command_208 (by decide) ?_
        have hE : h_X7_command M how q = (0, M) := (by rw [h_X7_command, if_neg c_1, if_pos c_9, if_pos c_10, if_pos c_11])
        have hE2 := snd_of hE
        exact W.zret (ty := .boolean) hx hb hr rfl (fun t ht hW => ⟨by rw [fst_of hE], by rw [ht, hE2]; exact hP, hS.F ht⟩) hS.2.2 dX7_command_209
      · refine lv_aload_n hx hb dX7_command_191 rfl (lv_at hl 7 rfl) ?_
        refine va_get (D := G.1) (ci := 5) (v := .ref (b + 3)) (C := RX7) (T := TX7) (N := 12) hx hb hts hin7 hown hO.1 hP 0 rfl rfl 4 (by decide) hf_16 (fun _ h9 => h9) rfl dX7_command_192 ?_
        refine lv_iload hx hb dX7_command_195 (lv_at hl 5 rfl) ?_
        refine lv_iconst (v := 2) hx hb dX7_command_197 (by decide) ?_
        refine cl_mi (rS (As := [.ref (b + 3), .int (nI (q / 1000)), .int 2]) (rest := []) ⟨hx, hb, hml, hown, hts⟩ (c_X7_goes l G (b + 3) (mR M) (q / 1000) 2 (RI.P hRI (by omega) (by assumption)).1 (RI.P hRI (by omega) (by assumption)).2.1 (RI.P hRI (by omega) (by assumption)).2.2.1 (RI.P hRI (by omega) (by assumption)).2.2.2) (va_cwS 3 hts gX7_command_X7_goes rfl rfl rfl (by decide +kernel) ⟨Nat.le_of_ble_eq_true rfl, Nat.le_of_ble_eq_true rfl⟩) (va_P.sub hP [3] rfl) hO rfl hl.1 (Nat.le_of_ble_eq_true rfl) dX7_command_198 ⟨Nat.le_of_ble_eq_true rfl, Nat.le_of_ble_eq_true rfl⟩) hS (fun q h => hA q (by simp only [one, blk] at *; omega)) (fun H locs hP1 hz hk hS => ?_)
        have hP : Md G b (oR M ((h_X7_goes (mR M) (q / 1000) 2).2)) H := md_pR (mo_row 3 hP rfl hP1 hk)
        refine lv_if_lt (tgt := 208) hx hb dX7_command_201 (by decide) (fun c_12 => ?_) (fun c_12 => ?_)
        · refine lv_iconst (v := 0) hx hb dX7_command_208 (by decide) ?_
          have hE : h_X7_command M how q = (0, (oR M ((h_X7_goes (mR M) (q / 1000) 2).2))) := (by rw [h_X7_command, if_neg c_1, if_pos c_9, if_pos c_10, if_neg c_11, if_pos c_12])
          have hE2 := snd_of hE
          exact W.zret (ty := .boolean) hx hb hr rfl (fun t ht hW => ⟨by rw [fst_of hE], by rw [ht, hE2]; exact hP, hS.F ht⟩) hS.2.2 dX7_command_209
        · refine lv_iconst (v := 1) hx hb dX7_command_204 (by decide) ?_
          refine lv_goto (tgt := 209) hx hb dX7_command_205 (by decide) ?_
          have hE : h_X7_command M how q = (1, (oR M ((h_X7_goes (mR M) (q / 1000) 2).2))) := (by rw [h_X7_command, if_neg c_1, if_pos c_9, if_pos c_10, if_neg c_11, if_neg c_12])
          have hE2 := snd_of hE
          exact W.zret (ty := .boolean) hx hb hr rfl (fun t ht hW => ⟨by rw [fst_of hE], by rw [ht, hE2]; exact hP, hS.F ht⟩) hS.2.2 dX7_command_209
  by_cases c_13 : how = 3
  · refine lv_tableIn (off := 159) (tgt := 210) hx hb dX7_command_51 (by rw [c_13]; decide) (by rw [c_13]; decide) (by rw [c_13]; decide +kernel) (by decide) ?_
    refine lv_iload hx hb dX7_command_210 (lv_at hl 2 rfl) ?_
    refine lv_if_ne (tgt := 267) hx hb dX7_command_212 (by decide) (fun c_14 => ?_) (fun c_14 => ?_)
    · refine lv_iconst (v := 0) hx hb dX7_command_267 (by decide) ?_
      have hE : h_X7_command M how q = (0, M) := (by rw [h_X7_command, if_neg c_1, if_neg c_9, if_pos c_13, if_neg c_14])
      have hE2 := snd_of hE
      exact W.zret (ty := .boolean) hx hb hr rfl (fun t ht hW => ⟨by rw [fst_of hE], by rw [ht, hE2]; exact hP, hS.F ht⟩) hS.2.2 dX7_command_268
    · refine lv_aload_n hx hb dX7_command_215 rfl (lv_at hl 7 rfl) ?_
      refine va_get (D := G.1) (ci := 5) (v := .ref (b + 3)) (C := RX7) (T := TX7) (N := 12) hx hb hts hin7 hown hO.1 hP 0 rfl rfl 4 (by decide) hf_16 (fun _ h9 => h9) rfl dX7_command_216 ?_
      refine lv_iload hx hb dX7_command_219 (lv_at hl 5 rfl) ?_
      refine cl_pi (rS (As := [.ref (b + 3), .int (nI (q / 1000))]) (rest := []) ⟨hx, hb, hml, hown, hts⟩ (c_X7_isCar l G (b + 3) (mR M) (nI (q / 1000))) (va_cwS 2 hts gX7_command_X7_isCar rfl rfl rfl (by decide +kernel) ⟨Nat.le_of_ble_eq_true rfl, Nat.le_of_ble_eq_true rfl⟩) (va_P.sub hP [3] rfl) hO rfl hl.1 (Nat.le_of_ble_eq_true rfl) dX7_command_221 ⟨Nat.le_of_ble_eq_true rfl, Nat.le_of_ble_eq_true rfl⟩) ?_
      refine lv_if_eq (tgt := 267) hx hb dX7_command_224 (by decide) (fun c_15 => ?_) (fun c_15 => ?_)
      · refine lv_iconst (v := 0) hx hb dX7_command_267 (by decide) ?_
        have hE : h_X7_command M how q = (0, M) := (by rw [h_X7_command, if_neg c_1, if_neg c_9, if_pos c_13, if_pos c_14, if_pos c_15])
        have hE2 := snd_of hE
        exact W.zret (ty := .boolean) hx hb hr rfl (fun t ht hW => ⟨by rw [fst_of hE], by rw [ht, hE2]; exact hP, hS.F ht⟩) hS.2.2 dX7_command_268
      · refine lv_iload hx hb dX7_command_227 (lv_at hl 3 rfl) ?_
        refine cl_pi (rS (As := [.int (nI ((q / 10) % 100))]) (rest := []) ⟨hx, hb, hml, hown, hts⟩ (c_X7_isCell l G (nI ((q / 10) % 100))) (va_cwS 1 hts gX7_command_X7_isCell rfl rfl rfl (by decide +kernel) ⟨Nat.le_of_ble_eq_true rfl, Nat.le_of_ble_eq_true rfl⟩) trivial hO rfl hl.1 (Nat.le_of_ble_eq_true rfl) dX7_command_229 ⟨Nat.le_of_ble_eq_true rfl, Nat.le_of_ble_eq_true rfl⟩) ?_
        refine lv_if_eq (tgt := 267) hx hb dX7_command_232 (by decide) (fun c_16 => ?_) (fun c_16 => ?_)
        · refine lv_iconst (v := 0) hx hb dX7_command_267 (by decide) ?_
          have hE : h_X7_command M how q = (0, M) := (by rw [h_X7_command, if_neg c_1, if_neg c_9, if_pos c_13, if_pos c_14, if_neg c_15, if_pos c_16])
          have hE2 := snd_of hE
          exact W.zret (ty := .boolean) hx hb hr rfl (fun t ht hW => ⟨by rw [fst_of hE], by rw [ht, hE2]; exact hP, hS.F ht⟩) hS.2.2 dX7_command_268
        · refine lv_aload_n hx hb dX7_command_235 rfl (lv_at hl 7 rfl) ?_
          refine va_get (D := G.1) (ci := 5) (v := .ref (b + 3)) (C := RX7) (T := TX7) (N := 12) hx hb hts hin7 hown hO.1 hP 0 rfl rfl 4 (by decide) hf_16 (fun _ h9 => h9) rfl dX7_command_236 ?_
          refine lv_iload hx hb dX7_command_239 (lv_at hl 5 rfl) ?_
          refine lv_iload hx hb dX7_command_241 (lv_at hl 3 rfl) ?_
          refine cl_pi (rS (As := [.ref (b + 3), .int (nI (q / 1000)), .int (nI ((q / 10) % 100))]) (rest := []) ⟨hx, hb, hml, hown, hts⟩ (c_X7_canMove l G (b + 3) (mR M) (q / 1000) ((q / 10) % 100) hRI.M (Nat.lt_of_lt_of_le (car_lt hRI (by omega) (by assumption)) hRI.m.2) (cell_lt (by omega) (by assumption)) (fun z => (RI.P hRI (by omega) z).2)) (va_cwS 3 hts gX7_command_X7_canMove rfl rfl rfl (by decide +kernel) ⟨Nat.le_of_ble_eq_true rfl, Nat.le_of_ble_eq_true rfl⟩) (va_P.sub hP [3] rfl) hO rfl hl.1 (Nat.le_of_ble_eq_true rfl) dX7_command_243 ⟨Nat.le_of_ble_eq_true rfl, Nat.le_of_ble_eq_true rfl⟩) ?_
          refine lv_if_eq (tgt := 267) hx hb dX7_command_246 (by decide) (fun c_17 => ?_) (fun c_17 => ?_)
          · refine lv_iconst (v := 0) hx hb dX7_command_267 (by decide) ?_
            have hE : h_X7_command M how q = (0, M) := (by rw [h_X7_command, if_neg c_1, if_neg c_9, if_pos c_13, if_pos c_14, if_neg c_15, if_neg c_16, if_pos c_17])
            have hE2 := snd_of hE
            exact W.zret (ty := .boolean) hx hb hr rfl (fun t ht hW => ⟨by rw [fst_of hE], by rw [ht, hE2]; exact hP, hS.F ht⟩) hS.2.2 dX7_command_268
          · refine lv_aload_n hx hb dX7_command_249 rfl (lv_at hl 7 rfl) ?_
            refine va_get (D := G.1) (ci := 5) (v := .ref (b + 3)) (C := RX7) (T := TX7) (N := 12) hx hb hts hin7 hown hO.1 hP 0 rfl rfl 4 (by decide) hf_16 (fun _ h9 => h9) rfl dX7_command_250 ?_
            refine lv_iload hx hb dX7_command_253 (lv_at hl 5 rfl) ?_
            refine lv_iload hx hb dX7_command_255 (lv_at hl 3 rfl) ?_
            refine cl_mi (rS (As := [.ref (b + 3), .int (nI (q / 1000)), .int (nI ((q / 10) % 100))]) (rest := []) ⟨hx, hb, hml, hown, hts⟩ (c_X7_moveOn l G (b + 3) (mR M) (q / 1000) ((q / 10) % 100) (Nat.lt_of_lt_of_le (car_lt hRI (by omega) (by assumption)) hRI.m.2) (mv_all (g := mR M) (c := q / 1000) (x := q / 10 % 100) hRI (Nat.lt_of_lt_of_le (car_lt hRI (by omega) (by assumption)) hRI.m.2) (cell_lt (by omega) (by assumption)) (by assumption)).1 (mv_all (g := mR M) (c := q / 1000) (x := q / 10 % 100) hRI (Nat.lt_of_lt_of_le (car_lt hRI (by omega) (by assumption)) hRI.m.2) (cell_lt (by omega) (by assumption)) (by assumption)).2.1 (mv_all (g := mR M) (c := q / 1000) (x := q / 10 % 100) hRI (Nat.lt_of_lt_of_le (car_lt hRI (by omega) (by assumption)) hRI.m.2) (cell_lt (by omega) (by assumption)) (by assumption)).2.2.1 (mv_all (g := mR M) (c := q / 1000) (x := q / 10 % 100) hRI (Nat.lt_of_lt_of_le (car_lt hRI (by omega) (by assumption)) hRI.m.2) (cell_lt (by omega) (by assumption)) (by assumption)).2.2.2) (va_cwS 3 hts gX7_command_X7_moveOn rfl rfl rfl (by decide +kernel) ⟨Nat.le_of_ble_eq_true rfl, Nat.le_of_ble_eq_true rfl⟩) (va_P.sub hP [3] rfl) hO rfl hl.1 (Nat.le_of_ble_eq_true rfl) dX7_command_257 ⟨Nat.le_of_ble_eq_true rfl, Nat.le_of_ble_eq_true rfl⟩) hS (fun q h => hA q (by simp only [one, blk] at *; omega)) (fun H locs hP1 hz hk hS => ?_)
            have hP : Md G b (oR M ((h_X7_moveOn (mR M) (q / 1000) ((q / 10) % 100)).2)) H := md_pR (mo_row 3 hP rfl hP1 hk)
            refine lv_if_lt (tgt := 267) hx hb dX7_command_260 (by decide) (fun c_18 => ?_) (fun c_18 => ?_)
            · refine lv_iconst (v := 0) hx hb dX7_command_267 (by decide) ?_
              have hE : h_X7_command M how q = (0, (oR M ((h_X7_moveOn (mR M) (q / 1000) ((q / 10) % 100)).2))) := (by rw [h_X7_command, if_neg c_1, if_neg c_9, if_pos c_13, if_pos c_14, if_neg c_15, if_neg c_16, if_neg c_17, if_pos c_18])
              have hE2 := snd_of hE
              exact W.zret (ty := .boolean) hx hb hr rfl (fun t ht hW => ⟨by rw [fst_of hE], by rw [ht, hE2]; exact hP, hS.F ht⟩) hS.2.2 dX7_command_268
            · refine lv_iconst (v := 1) hx hb dX7_command_263 (by decide) ?_
              refine lv_goto (tgt := 268) hx hb dX7_command_264 (by decide) ?_
              have hE : h_X7_command M how q = (1, (oR M ((h_X7_moveOn (mR M) (q / 1000) ((q / 10) % 100)).2))) := (by rw [h_X7_command, if_neg c_1, if_neg c_9, if_pos c_13, if_pos c_14, if_neg c_15, if_neg c_16, if_neg c_17, if_neg c_18])
              have hE2 := snd_of hE
              exact W.zret (ty := .boolean) hx hb hr rfl (fun t ht hW => ⟨by rw [fst_of hE], by rw [ht, hE2]; exact hP, hS.F ht⟩) hS.2.2 dX7_command_268
  by_cases c_19 : how = 4
  · refine lv_tableIn (off := 218) (tgt := 269) hx hb dX7_command_51 (by rw [c_19]; decide) (by rw [c_19]; decide) (by rw [c_19]; decide +kernel) (by decide) ?_
    refine lv_iload_n hx hb dX7_command_269 rfl (lv_at hl 9 rfl) ?_
    refine lv_i2l (v := (nI q).toInt64) hx hb dX7_command_270 rfl ?_
    refine lv_lconst (v := 1) hx hb dX7_command_271 (by decide) ?_
    refine lv_ldc2 (v := 60) hx hb hown (hts (.constantLong RX7 226 (60)) (by decide +kernel)) dX7_command_272 ?_
    refine cl_pi (rS (As := [.long ((nI q).toInt64), .long 1, .long 60]) (rest := []) ⟨hx, hb, hml, hown, hts⟩ (c_X7_in l G ((nI q).toInt64) 1 60) (va_cwS 3 hts gX7_command_X7_in rfl rfl rfl (by decide +kernel) ⟨Nat.le_of_ble_eq_true rfl, Nat.le_of_ble_eq_true rfl⟩) trivial hO rfl hl.1 (Nat.le_of_ble_eq_true rfl) dX7_command_275 ⟨Nat.le_of_ble_eq_true rfl, Nat.le_of_ble_eq_true rfl⟩) ?_
    refine lv_if_eq (tgt := 296) hx hb dX7_command_278 (by decide) (fun c_20 => ?_) (fun c_20 => ?_)
    · refine lv_iconst (v := 0) hx hb dX7_command_296 (by decide) ?_
      have hE : h_X7_command M how q = (0, M) := (by rw [h_X7_command, if_neg c_1, if_neg c_9, if_neg c_13, if_pos c_19, if_pos c_20])
      have hE2 := snd_of hE
      exact W.zret (ty := .boolean) hx hb hr rfl (fun t ht hW => ⟨by rw [fst_of hE], by rw [ht, hE2]; exact hP, hS.F ht⟩) hS.2.2 dX7_command_297
    · refine lv_aload_n hx hb dX7_command_281 rfl (lv_at hl 7 rfl) ?_
      refine va_get (D := G.1) (ci := 5) (v := .ref (b + 3)) (C := RX7) (T := TX7) (N := 12) hx hb hts hin7 hown hO.1 hP 0 rfl rfl 4 (by decide) hf_16 (fun _ h9 => h9) rfl dX7_command_282 ?_
      refine lv_iload_n hx hb dX7_command_285 rfl (lv_at hl 9 rfl) ?_
      refine cl_mi (rS (As := [.ref (b + 3), .int (nI q)]) (rest := []) ⟨hx, hb, hml, hown, hts⟩ (c_X7_minutesOn l G (b + 3) (mR M) (nI q) hRI) (va_cwS 2 hts gX7_command_X7_minutesOn rfl rfl rfl (by decide +kernel) ⟨Nat.le_of_ble_eq_true rfl, Nat.le_of_ble_eq_true rfl⟩) (va_P.sub hP [3] rfl) hO rfl hl.1 (Nat.le_of_ble_eq_true rfl) dX7_command_286 ⟨Nat.le_of_ble_eq_true rfl, Nat.le_of_ble_eq_true rfl⟩) hS (fun q h => hA q (by simp only [one, blk] at *; omega)) (fun H locs hP1 hz hk hS => ?_)
      have hP : Md G b (oR M ((h_X7_minutesOn (mR M) (nI q)).2)) H := md_pR (mo_row 3 hP rfl hP1 hk)
      refine lv_if_lt (tgt := 296) hx hb dX7_command_289 (by decide) (fun c_21 => ?_) (fun c_21 => ?_)
      · refine lv_iconst (v := 0) hx hb dX7_command_296 (by decide) ?_
        have hE : h_X7_command M how q = (0, (oR M ((h_X7_minutesOn (mR M) (nI q)).2))) := (by rw [h_X7_command, if_neg c_1, if_neg c_9, if_neg c_13, if_pos c_19, if_neg c_20, if_pos c_21])
        have hE2 := snd_of hE
        exact W.zret (ty := .boolean) hx hb hr rfl (fun t ht hW => ⟨by rw [fst_of hE], by rw [ht, hE2]; exact hP, hS.F ht⟩) hS.2.2 dX7_command_297
      · refine lv_iconst (v := 1) hx hb dX7_command_292 (by decide) ?_
        refine lv_goto (tgt := 297) hx hb dX7_command_293 (by decide) ?_
        have hE : h_X7_command M how q = (1, (oR M ((h_X7_minutesOn (mR M) (nI q)).2))) := (by rw [h_X7_command, if_neg c_1, if_neg c_9, if_neg c_13, if_pos c_19, if_neg c_20, if_neg c_21])
        have hE2 := snd_of hE
        exact W.zret (ty := .boolean) hx hb hr rfl (fun t ht hW => ⟨by rw [fst_of hE], by rw [ht, hE2]; exact hP, hS.F ht⟩) hS.2.2 dX7_command_297
  by_cases c_22 : how = 5
  · refine lv_tableIn (off := 247) (tgt := 298) hx hb dX7_command_51 (by rw [c_22]; decide) (by rw [c_22]; decide) (by rw [c_22]; decide +kernel) (by decide) ?_
    refine lv_iload hx hb dX7_command_298 (lv_at hl 5 rfl) ?_
    refine lv_bipush (v := 10) hx hb dX7_command_300 (by decide) ?_
    refine irem_n (a := q / 1000) (b := 10) hx hb ⟨by omega, by omega, by omega⟩ dX7_command_302 ?_
    refine lv_if_ne (tgt := 337) hx hb dX7_command_303 (by decide) (fun c_23 => ?_) (fun c_23 => ?_)
    · refine lv_iconst (v := 0) hx hb dX7_command_337 (by decide) ?_
      have hE : h_X7_command M how q = (0, M) := (by rw [h_X7_command, if_neg c_1, if_neg c_9, if_neg c_13, if_neg c_19, if_pos c_22, if_neg c_23])
      have hE2 := snd_of hE
      exact W.zret (ty := .boolean) hx hb hr rfl (fun t ht hW => ⟨by rw [fst_of hE], by rw [ht, hE2]; exact hP, hS.F ht⟩) hS.2.2 dX7_command_338
    · refine lv_iload hx hb dX7_command_306 (lv_at hl 2 rfl) ?_
      refine lv_if_ne (tgt := 337) hx hb dX7_command_308 (by decide) (fun c_24 => ?_) (fun c_24 => ?_)
      · refine lv_iconst (v := 0) hx hb dX7_command_337 (by decide) ?_
        have hE : h_X7_command M how q = (0, M) := (by rw [h_X7_command, if_neg c_1, if_neg c_9, if_neg c_13, if_neg c_19, if_pos c_22, if_pos c_23, if_neg c_24])
        have hE2 := snd_of hE
        exact W.zret (ty := .boolean) hx hb hr rfl (fun t ht hW => ⟨by rw [fst_of hE], by rw [ht, hE2]; exact hP, hS.F ht⟩) hS.2.2 dX7_command_338
      · refine lv_iload_n hx hb dX7_command_311 rfl (lv_at hl 6 rfl) ?_
        refine lv_iload hx hb dX7_command_312 (lv_at hl 3 rfl) ?_
        refine cl_pi (rS (As := [.int (nI (q / 10000)), .int (nI ((q / 10) % 100))]) (rest := []) ⟨hx, hb, hml, hown, hts⟩ (c_X7_isSetting l G (nI (q / 10000)) (nI ((q / 10) % 100))) (va_cwS 2 hts gX7_command_X7_isSetting rfl rfl rfl (by decide +kernel) ⟨Nat.le_of_ble_eq_true rfl, Nat.le_of_ble_eq_true rfl⟩) trivial hO rfl hl.1 (Nat.le_of_ble_eq_true rfl) dX7_command_314 ⟨Nat.le_of_ble_eq_true rfl, Nat.le_of_ble_eq_true rfl⟩) ?_
        refine lv_if_eq (tgt := 337) hx hb dX7_command_317 (by decide) (fun c_25 => ?_) (fun c_25 => ?_)
        · refine lv_iconst (v := 0) hx hb dX7_command_337 (by decide) ?_
          have hE : h_X7_command M how q = (0, M) := (by rw [h_X7_command, if_neg c_1, if_neg c_9, if_neg c_13, if_neg c_19, if_pos c_22, if_pos c_23, if_pos c_24, if_pos c_25])
          have hE2 := snd_of hE
          exact W.zret (ty := .boolean) hx hb hr rfl (fun t ht hW => ⟨by rw [fst_of hE], by rw [ht, hE2]; exact hP, hS.F ht⟩) hS.2.2 dX7_command_338
        · refine lv_aload_n hx hb dX7_command_320 rfl (lv_at hl 7 rfl) ?_
          refine va_get (D := G.1) (ci := 5) (v := .ref (b + 3)) (C := RX7) (T := TX7) (N := 12) hx hb hts hin7 hown hO.1 hP 0 rfl rfl 4 (by decide) hf_16 (fun _ h9 => h9) rfl dX7_command_321 ?_
          refine lv_iload_n hx hb dX7_command_324 rfl (lv_at hl 6 rfl) ?_
          refine lv_iload hx hb dX7_command_325 (lv_at hl 3 rfl) ?_
          refine cl_mi (rS (As := [.ref (b + 3), .int (nI (q / 10000)), .int (nI ((q / 10) % 100))]) (rest := []) ⟨hx, hb, hml, hown, hts⟩ (c_X7_change l G (b + 3) (mR M) (q / 10000) (nI ((q / 10) % 100)) (set_lt (by omega) (by assumption))) (va_cwS 3 hts gX7_command_X7_change rfl rfl rfl (by decide +kernel) ⟨Nat.le_of_ble_eq_true rfl, Nat.le_of_ble_eq_true rfl⟩) (va_P.sub hP [3] rfl) hO rfl hl.1 (Nat.le_of_ble_eq_true rfl) dX7_command_327 ⟨Nat.le_of_ble_eq_true rfl, Nat.le_of_ble_eq_true rfl⟩) hS (fun q h => hA q (by simp only [one, blk] at *; omega)) (fun H locs hP1 hz hk hS => ?_)
          have hP : Md G b (oR M ((h_X7_change (mR M) (q / 10000) (nI ((q / 10) % 100))).2)) H := md_pR (mo_row 3 hP rfl hP1 hk)
          refine lv_if_lt (tgt := 337) hx hb dX7_command_330 (by decide) (fun c_26 => ?_) (fun c_26 => ?_)
          · refine lv_iconst (v := 0) hx hb dX7_command_337 (by decide) ?_
            have hE : h_X7_command M how q = (0, (oR M ((h_X7_change (mR M) (q / 10000) (nI ((q / 10) % 100))).2))) := (by rw [h_X7_command, if_neg c_1, if_neg c_9, if_neg c_13, if_neg c_19, if_pos c_22, if_pos c_23, if_pos c_24, if_neg c_25, if_pos c_26])
            have hE2 := snd_of hE
            exact W.zret (ty := .boolean) hx hb hr rfl (fun t ht hW => ⟨by rw [fst_of hE], by rw [ht, hE2]; exact hP, hS.F ht⟩) hS.2.2 dX7_command_338
          · refine lv_iconst (v := 1) hx hb dX7_command_333 (by decide) ?_
            refine lv_goto (tgt := 338) hx hb dX7_command_334 (by decide) ?_
            have hE : h_X7_command M how q = (1, (oR M ((h_X7_change (mR M) (q / 10000) (nI ((q / 10) % 100))).2))) := (by rw [h_X7_command, if_neg c_1, if_neg c_9, if_neg c_13, if_neg c_19, if_pos c_22, if_pos c_23, if_pos c_24, if_neg c_25, if_neg c_26])
            have hE2 := snd_of hE
            exact W.zret (ty := .boolean) hx hb hr rfl (fun t ht hW => ⟨by rw [fst_of hE], by rw [ht, hE2]; exact hP, hS.F ht⟩) hS.2.2 dX7_command_338
  by_cases c_27 : how = 6
  · refine lv_tableIn (off := 288) (tgt := 339) hx hb dX7_command_51 (by rw [c_27]; decide) (by rw [c_27]; decide) (by rw [c_27]; decide +kernel) (by decide) ?_
    refine lv_iload hx hb dX7_command_339 (lv_at hl 0 rfl) ?_
    refine lv_iconst (v := 2) hx hb dX7_command_341 (by decide) ?_
    refine lv_icmp_ge (tgt := 395) hx hb dX7_command_342 (by decide) (fun c_28 => ?_) (fun c_28 => ?_)
    · refine lv_iconst (v := 0) hx hb dX7_command_395 (by decide) ?_
      have hE : h_X7_command M how q = (0, M) := (by rw [h_X7_command, if_neg c_1, if_neg c_9, if_neg c_13, if_neg c_19, if_neg c_22, if_pos c_27, if_pos c_28])
      have hE2 := snd_of hE
      exact W.zret (ty := .boolean) hx hb hr rfl (fun t ht hW => ⟨by rw [fst_of hE], by rw [ht, hE2]; exact hP, hS.F ht⟩) hS.2.2 dX7_command_396
    · refine lv_aload_n hx hb dX7_command_345 rfl (lv_at hl 7 rfl) ?_
      refine va_get (D := G.1) (ci := 5) (v := .ref (b + 3)) (C := RX7) (T := TX7) (N := 12) hx hb hts hin7 hown hO.1 hP 0 rfl rfl 4 (by decide) hf_16 (fun _ h9 => h9) rfl dX7_command_346 ?_
      refine lv_iload hx hb dX7_command_349 (lv_at hl 5 rfl) ?_
      refine lv_iload hx hb dX7_command_351 (lv_at hl 0 rfl) ?_
      refine lv_iconst (v := 1) hx hb dX7_command_353 (by decide) ?_
      refine lv_icmp_ne (tgt := 361) hx hb dX7_command_354 (by decide) (fun c_29 => ?_) (fun c_29 => ?_)
      · refine lv_iconst (v := 0) hx hb dX7_command_361 (by decide) ?_
        refine cl_pi (rS (As := [.ref (b + 3), .int (nI (q / 1000)), .int 0]) (rest := []) ⟨hx, hb, hml, hown, hts⟩ (c_X7_canHydrant l G (b + 3) (mR M) (nI (q / 1000)) 0) (va_cwS 3 hts gX7_command_X7_canHydrant rfl rfl rfl (by decide +kernel) ⟨Nat.le_of_ble_eq_true rfl, Nat.le_of_ble_eq_true rfl⟩) (va_P.sub hP [3] rfl) hO rfl hl.1 (Nat.le_of_ble_eq_true rfl) dX7_command_362 ⟨Nat.le_of_ble_eq_true rfl, Nat.le_of_ble_eq_true rfl⟩) ?_
        refine lv_if_eq (tgt := 395) hx hb dX7_command_365 (by decide) (fun c_30 => ?_) (fun c_30 => ?_)
        · refine lv_iconst (v := 0) hx hb dX7_command_395 (by decide) ?_
          have hE : h_X7_command M how q = (0, M) := (by rw [h_X7_command, if_neg c_1, if_neg c_9, if_neg c_13, if_neg c_19, if_neg c_22, if_pos c_27, if_neg c_28, if_neg c_29, if_pos c_30])
          have hE2 := snd_of hE
          exact W.zret (ty := .boolean) hx hb hr rfl (fun t ht hW => ⟨by rw [fst_of hE], by rw [ht, hE2]; exact hP, hS.F ht⟩) hS.2.2 dX7_command_396
        · refine lv_aload_n hx hb dX7_command_368 rfl (lv_at hl 7 rfl) ?_
          refine va_get (D := G.1) (ci := 5) (v := .ref (b + 3)) (C := RX7) (T := TX7) (N := 12) hx hb hts hin7 hown hO.1 hP 0 rfl rfl 4 (by decide) hf_16 (fun _ h9 => h9) rfl dX7_command_369 ?_
          refine lv_iload hx hb dX7_command_372 (lv_at hl 5 rfl) ?_
          refine lv_iload hx hb dX7_command_374 (lv_at hl 0 rfl) ?_
          refine lv_iconst (v := 1) hx hb dX7_command_376 (by decide) ?_
          refine lv_icmp_ne (tgt := 384) hx hb dX7_command_377 (by decide) (fun c_31 => ?_) (fun c_31 => ?_)
          · refine lv_iconst (v := 0) hx hb dX7_command_384 (by decide) ?_
            refine cl_mi (rS (As := [.ref (b + 3), .int (nI (q / 1000)), .int 0]) (rest := []) ⟨hx, hb, hml, hown, hts⟩ (c_X7_hydrantOn l G (b + 3) (mR M) (q / 1000) 0 (hyd_lt (by omega) (by assumption))) (va_cwS 3 hts gX7_command_X7_hydrantOn rfl rfl rfl (by decide +kernel) ⟨Nat.le_of_ble_eq_true rfl, Nat.le_of_ble_eq_true rfl⟩) (va_P.sub hP [3] rfl) hO rfl hl.1 (Nat.le_of_ble_eq_true rfl) dX7_command_385 ⟨Nat.le_of_ble_eq_true rfl, Nat.le_of_ble_eq_true rfl⟩) hS (fun q h => hA q (by simp only [one, blk] at *; omega)) (fun H locs hP1 hz hk hS => ?_)
            have hP : Md G b (oR M ((h_X7_hydrantOn (mR M) (q / 1000) 0).2)) H := md_pR (mo_row 3 hP rfl hP1 hk)
            refine lv_if_lt (tgt := 395) hx hb dX7_command_388 (by decide) (fun c_32 => ?_) (fun c_32 => ?_)
            · refine lv_iconst (v := 0) hx hb dX7_command_395 (by decide) ?_
              have hE : h_X7_command M how q = (0, (oR M ((h_X7_hydrantOn (mR M) (q / 1000) 0).2))) := (by rw [h_X7_command, if_neg c_1, if_neg c_9, if_neg c_13, if_neg c_19, if_neg c_22, if_pos c_27, if_neg c_28, if_neg c_29, if_neg c_30, if_pos c_32])
              have hE2 := snd_of hE
              exact W.zret (ty := .boolean) hx hb hr rfl (fun t ht hW => ⟨by rw [fst_of hE], by rw [ht, hE2]; exact hP, hS.F ht⟩) hS.2.2 dX7_command_396
            · refine lv_iconst (v := 1) hx hb dX7_command_391 (by decide) ?_
              refine lv_goto (tgt := 396) hx hb dX7_command_392 (by decide) ?_
              have hE : h_X7_command M how q = (1, (oR M ((h_X7_hydrantOn (mR M) (q / 1000) 0).2))) := (by rw [h_X7_command, if_neg c_1, if_neg c_9, if_neg c_13, if_neg c_19, if_neg c_22, if_pos c_27, if_neg c_28, if_neg c_29, if_neg c_30, if_neg c_32])
              have hE2 := snd_of hE
              exact W.zret (ty := .boolean) hx hb hr rfl (fun t ht hW => ⟨by rw [fst_of hE], by rw [ht, hE2]; exact hP, hS.F ht⟩) hS.2.2 dX7_command_396
          · exact absurd c_31 c_29
      · refine lv_iconst (v := 1) hx hb dX7_command_357 (by decide) ?_
        refine lv_goto (tgt := 362) hx hb dX7_command_358 (by decide) ?_
        refine cl_pi (rS (As := [.ref (b + 3), .int (nI (q / 1000)), .int 1]) (rest := []) ⟨hx, hb, hml, hown, hts⟩ (c_X7_canHydrant l G (b + 3) (mR M) (nI (q / 1000)) 1) (va_cwS 3 hts gX7_command_X7_canHydrant rfl rfl rfl (by decide +kernel) ⟨Nat.le_of_ble_eq_true rfl, Nat.le_of_ble_eq_true rfl⟩) (va_P.sub hP [3] rfl) hO rfl hl.1 (Nat.le_of_ble_eq_true rfl) dX7_command_362 ⟨Nat.le_of_ble_eq_true rfl, Nat.le_of_ble_eq_true rfl⟩) ?_
        refine lv_if_eq (tgt := 395) hx hb dX7_command_365 (by decide) (fun c_33 => ?_) (fun c_33 => ?_)
        · refine lv_iconst (v := 0) hx hb dX7_command_395 (by decide) ?_
          have hE : h_X7_command M how q = (0, M) := (by rw [h_X7_command, if_neg c_1, if_neg c_9, if_neg c_13, if_neg c_19, if_neg c_22, if_pos c_27, if_neg c_28, if_pos c_29, if_pos c_33])
          have hE2 := snd_of hE
          exact W.zret (ty := .boolean) hx hb hr rfl (fun t ht hW => ⟨by rw [fst_of hE], by rw [ht, hE2]; exact hP, hS.F ht⟩) hS.2.2 dX7_command_396
        · refine lv_aload_n hx hb dX7_command_368 rfl (lv_at hl 7 rfl) ?_
          refine va_get (D := G.1) (ci := 5) (v := .ref (b + 3)) (C := RX7) (T := TX7) (N := 12) hx hb hts hin7 hown hO.1 hP 0 rfl rfl 4 (by decide) hf_16 (fun _ h9 => h9) rfl dX7_command_369 ?_
          refine lv_iload hx hb dX7_command_372 (lv_at hl 5 rfl) ?_
          refine lv_iload hx hb dX7_command_374 (lv_at hl 0 rfl) ?_
          refine lv_iconst (v := 1) hx hb dX7_command_376 (by decide) ?_
          refine lv_icmp_ne (tgt := 384) hx hb dX7_command_377 (by decide) (fun c_34 => ?_) (fun c_34 => ?_)
          · exact absurd c_29 c_34
          · refine lv_iconst (v := 1) hx hb dX7_command_380 (by decide) ?_
            refine lv_goto (tgt := 385) hx hb dX7_command_381 (by decide) ?_
            refine cl_mi (rS (As := [.ref (b + 3), .int (nI (q / 1000)), .int 1]) (rest := []) ⟨hx, hb, hml, hown, hts⟩ (c_X7_hydrantOn l G (b + 3) (mR M) (q / 1000) 1 (hyd_lt (by omega) (by assumption))) (va_cwS 3 hts gX7_command_X7_hydrantOn rfl rfl rfl (by decide +kernel) ⟨Nat.le_of_ble_eq_true rfl, Nat.le_of_ble_eq_true rfl⟩) (va_P.sub hP [3] rfl) hO rfl hl.1 (Nat.le_of_ble_eq_true rfl) dX7_command_385 ⟨Nat.le_of_ble_eq_true rfl, Nat.le_of_ble_eq_true rfl⟩) hS (fun q h => hA q (by simp only [one, blk] at *; omega)) (fun H locs hP1 hz hk hS => ?_)
            have hP : Md G b (oR M ((h_X7_hydrantOn (mR M) (q / 1000) 1).2)) H := md_pR (mo_row 3 hP rfl hP1 hk)
            refine lv_if_lt (tgt := 395) hx hb dX7_command_388 (by decide) (fun c_35 => ?_) (fun c_35 => ?_)
            · refine lv_iconst (v := 0) hx hb dX7_command_395 (by decide) ?_
              have hE : h_X7_command M how q = (0, (oR M ((h_X7_hydrantOn (mR M) (q / 1000) 1).2))) := (by rw [h_X7_command, if_neg c_1, if_neg c_9, if_neg c_13, if_neg c_19, if_neg c_22, if_pos c_27, if_neg c_28, if_pos c_29, if_neg c_33, if_pos c_35])
              have hE2 := snd_of hE
              exact W.zret (ty := .boolean) hx hb hr rfl (fun t ht hW => ⟨by rw [fst_of hE], by rw [ht, hE2]; exact hP, hS.F ht⟩) hS.2.2 dX7_command_396
            · refine lv_iconst (v := 1) hx hb dX7_command_391 (by decide) ?_
              refine lv_goto (tgt := 396) hx hb dX7_command_392 (by decide) ?_
              have hE : h_X7_command M how q = (1, (oR M ((h_X7_hydrantOn (mR M) (q / 1000) 1).2))) := (by rw [h_X7_command, if_neg c_1, if_neg c_9, if_neg c_13, if_neg c_19, if_neg c_22, if_pos c_27, if_neg c_28, if_pos c_29, if_neg c_33, if_neg c_35])
              have hE2 := snd_of hE
              exact W.zret (ty := .boolean) hx hb hr rfl (fun t ht hW => ⟨by rw [fst_of hE], by rw [ht, hE2]; exact hP, hS.F ht⟩) hS.2.2 dX7_command_396
  by_cases c_36 : how = 7
  · refine lv_tableIn (off := 346) (tgt := 397) hx hb dX7_command_51 (by rw [c_36]; decide) (by rw [c_36]; decide) (by rw [c_36]; decide +kernel) (by decide) ?_
    refine lv_iload_n hx hb dX7_command_397 rfl (lv_at hl 9 rfl) ?_
    refine lv_sipush (v := 10000) hx hb dX7_command_398 (by decide) ?_
    refine irem_n (a := q) (b := 10000) hx hb ⟨by omega, by omega, by omega⟩ dX7_command_401 ?_
    refine lv_bipush (v := 10) hx hb dX7_command_402 (by decide) ?_
    refine lv_icmp_ge (tgt := 431) hx hb dX7_command_404 (by decide) (fun c_37 => ?_) (fun c_37 => ?_)
    · refine lv_iconst (v := 0) hx hb dX7_command_431 (by decide) ?_
      have hE : h_X7_command M how q = (0, M) := (by rw [h_X7_command, if_neg c_1, if_neg c_9, if_neg c_13, if_neg c_19, if_neg c_22, if_neg c_27, if_pos c_36, if_pos c_37])
      have hE2 := snd_of hE
      exact W.zret (ty := .boolean) hx hb hr rfl (fun t ht hW => ⟨by rw [fst_of hE], by rw [ht, hE2]; exact hP, hS.F ht⟩) hS.2.2 dX7_command_432
    · refine lv_iload_n hx hb dX7_command_407 rfl (lv_at hl 6 rfl) ?_
      refine cl_pi (rS (As := [.int (nI (q / 10000))]) (rest := []) ⟨hx, hb, hml, hown, hts⟩ (c_X7_isLength l G (nI (q / 10000))) (va_cwS 1 hts gX7_command_X7_isLength rfl rfl rfl (by decide +kernel) ⟨Nat.le_of_ble_eq_true rfl, Nat.le_of_ble_eq_true rfl⟩) trivial hO rfl hl.1 (Nat.le_of_ble_eq_true rfl) dX7_command_408 ⟨Nat.le_of_ble_eq_true rfl, Nat.le_of_ble_eq_true rfl⟩) ?_
      refine lv_if_eq (tgt := 431) hx hb dX7_command_411 (by decide) (fun c_38 => ?_) (fun c_38 => ?_)
      · refine lv_iconst (v := 0) hx hb dX7_command_431 (by decide) ?_
        have hE : h_X7_command M how q = (0, M) := (by rw [h_X7_command, if_neg c_1, if_neg c_9, if_neg c_13, if_neg c_19, if_neg c_22, if_neg c_27, if_pos c_36, if_neg c_37, if_pos c_38])
        have hE2 := snd_of hE
        exact W.zret (ty := .boolean) hx hb hr rfl (fun t ht hW => ⟨by rw [fst_of hE], by rw [ht, hE2]; exact hP, hS.F ht⟩) hS.2.2 dX7_command_432
      · refine lv_aload_n hx hb dX7_command_414 rfl (lv_at hl 7 rfl) ?_
        refine va_get (D := G.1) (ci := 5) (v := .ref (b + 3)) (C := RX7) (T := TX7) (N := 12) hx hb hts hin7 hown hO.1 hP 0 rfl rfl 4 (by decide) hf_16 (fun _ h9 => h9) rfl dX7_command_415 ?_
        refine lv_iload_n hx hb dX7_command_418 rfl (lv_at hl 6 rfl) ?_
        refine cl_pi (rS (As := [.ref (b + 3), .int (nI (q / 10000))]) (rest := []) ⟨hx, hb, hml, hown, hts⟩ (c_X7_reason l G (b + 3) (mR M) (nI (q / 10000))) (va_cwS 2 hts gX7_command_X7_reason rfl rfl rfl (by decide +kernel) ⟨Nat.le_of_ble_eq_true rfl, Nat.le_of_ble_eq_true rfl⟩) (va_P.sub hP [3] rfl) hO rfl hl.1 (Nat.le_of_ble_eq_true rfl) dX7_command_419 ⟨Nat.le_of_ble_eq_true rfl, Nat.le_of_ble_eq_true rfl⟩) ?_
        refine lv_iload hx hb dX7_command_422 (lv_at hl 2 rfl) ?_
        refine lv_icmp_ne (tgt := 431) hx hb dX7_command_424 (by decide) (fun c_39 => ?_) (fun c_39 => ?_)
        · refine lv_iconst (v := 0) hx hb dX7_command_431 (by decide) ?_
          have hE : h_X7_command M how q = (0, M) := (by rw [h_X7_command, if_neg c_1, if_neg c_9, if_neg c_13, if_neg c_19, if_neg c_22, if_neg c_27, if_pos c_36, if_neg c_37, if_neg c_38, if_neg c_39])
          have hE2 := snd_of hE
          exact W.zret (ty := .boolean) hx hb hr rfl (fun t ht hW => ⟨by rw [fst_of hE], by rw [ht, hE2]; exact hP, hS.F ht⟩) hS.2.2 dX7_command_432
        · refine lv_iconst (v := 1) hx hb dX7_command_427 (by decide) ?_
          refine lv_goto (tgt := 432) hx hb dX7_command_428 (by decide) ?_
          have hE : h_X7_command M how q = (1, M) := (by rw [h_X7_command, if_neg c_1, if_neg c_9, if_neg c_13, if_neg c_19, if_neg c_22, if_neg c_27, if_pos c_36, if_neg c_37, if_neg c_38, if_pos c_39])
          have hE2 := snd_of hE
          exact W.zret (ty := .boolean) hx hb hr rfl (fun t ht hW => ⟨by rw [fst_of hE], by rw [ht, hE2]; exact hP, hS.F ht⟩) hS.2.2 dX7_command_432
  by_cases c_40 : how = 8
  · refine lv_tableIn (off := 382) (tgt := 433) hx hb dX7_command_51 (by rw [c_40]; decide) (by rw [c_40]; decide) (by rw [c_40]; decide +kernel) (by decide) ?_
    refine lv_iload hx hb dX7_command_433 (lv_at hl 0 rfl) ?_
    refine lv_bipush (v := 10) hx hb dX7_command_435 (by decide) ?_
    refine lv_icmp_ge (tgt := 471) hx hb dX7_command_437 (by decide) (fun c_41 => ?_) (fun c_41 => ?_)
    · refine lv_iconst (v := 0) hx hb dX7_command_471 (by decide) ?_
      have hE : h_X7_command M how q = (0, M) := (by rw [h_X7_command, if_neg c_1, if_neg c_9, if_neg c_13, if_neg c_19, if_neg c_22, if_neg c_27, if_neg c_36, if_pos c_40, if_pos c_41])
      have hE2 := snd_of hE
      exact W.zret (ty := .boolean) hx hb hr rfl (fun t ht hW => ⟨by rw [fst_of hE], by rw [ht, hE2]; exact hP, hS.F ht⟩) hS.2.2 dX7_command_472
    · refine lv_aload_n hx hb dX7_command_440 rfl (lv_at hl 7 rfl) ?_
      refine va_get (D := G.1) (ci := 5) (v := .ref (b + 3)) (C := RX7) (T := TX7) (N := 12) hx hb hts hin7 hown hO.1 hP 0 rfl rfl 4 (by decide) hf_16 (fun _ h9 => h9) rfl dX7_command_441 ?_
      refine lv_iload hx hb dX7_command_444 (lv_at hl 5 rfl) ?_
      refine cl_pi (rS (As := [.ref (b + 3), .int (nI (q / 1000))]) (rest := []) ⟨hx, hb, hml, hown, hts⟩ (c_X7_isCar l G (b + 3) (mR M) (nI (q / 1000))) (va_cwS 2 hts gX7_command_X7_isCar rfl rfl rfl (by decide +kernel) ⟨Nat.le_of_ble_eq_true rfl, Nat.le_of_ble_eq_true rfl⟩) (va_P.sub hP [3] rfl) hO rfl hl.1 (Nat.le_of_ble_eq_true rfl) dX7_command_446 ⟨Nat.le_of_ble_eq_true rfl, Nat.le_of_ble_eq_true rfl⟩) ?_
      refine lv_if_eq (tgt := 471) hx hb dX7_command_449 (by decide) (fun c_42 => ?_) (fun c_42 => ?_)
      · refine lv_iconst (v := 0) hx hb dX7_command_471 (by decide) ?_
        have hE : h_X7_command M how q = (0, M) := (by rw [h_X7_command, if_neg c_1, if_neg c_9, if_neg c_13, if_neg c_19, if_neg c_22, if_neg c_27, if_neg c_36, if_pos c_40, if_neg c_41, if_pos c_42])
        have hE2 := snd_of hE
        exact W.zret (ty := .boolean) hx hb hr rfl (fun t ht hW => ⟨by rw [fst_of hE], by rw [ht, hE2]; exact hP, hS.F ht⟩) hS.2.2 dX7_command_472
      · refine lv_aload_n hx hb dX7_command_452 rfl (lv_at hl 7 rfl) ?_
        refine va_get (D := G.1) (ci := 5) (v := .ref (b + 3)) (C := RX7) (T := TX7) (N := 12) hx hb hts hin7 hown hO.1 hP 0 rfl rfl 4 (by decide) hf_16 (fun _ h9 => h9) rfl dX7_command_453 ?_
        refine lv_iload hx hb dX7_command_456 (lv_at hl 5 rfl) ?_
        refine lv_iconst (v := 2) hx hb dX7_command_458 (by decide) ?_
        refine cl_pi (rS (As := [.ref (b + 3), .int (nI (q / 1000)), .int 2]) (rest := []) ⟨hx, hb, hml, hown, hts⟩ (c_X7_of l G (b + 3) (mR M) (q / 1000) 2 (by have h9 := (show q / 1000 < 40 from (Nat.lt_of_lt_of_le (car_lt hRI (by omega) (by assumption)) hRI.m.2)); omega)) (va_cwS 3 hts gX7_command_X7_of rfl rfl rfl (by decide +kernel) ⟨Nat.le_of_ble_eq_true rfl, Nat.le_of_ble_eq_true rfl⟩) (va_P.sub hP [3] rfl) hO rfl hl.1 (Nat.le_of_ble_eq_true rfl) dX7_command_459 ⟨Nat.le_of_ble_eq_true rfl, Nat.le_of_ble_eq_true rfl⟩) ?_
        refine lv_iload hx hb dX7_command_462 (lv_at hl 2 rfl) ?_
        refine lv_icmp_ne (tgt := 471) hx hb dX7_command_464 (by decide) (fun c_43 => ?_) (fun c_43 => ?_)
        · refine lv_iconst (v := 0) hx hb dX7_command_471 (by decide) ?_
          have hE : h_X7_command M how q = (0, M) := (by rw [h_X7_command, if_neg c_1, if_neg c_9, if_neg c_13, if_neg c_19, if_neg c_22, if_neg c_27, if_neg c_36, if_pos c_40, if_neg c_41, if_neg c_42, if_neg c_43])
          have hE2 := snd_of hE
          exact W.zret (ty := .boolean) hx hb hr rfl (fun t ht hW => ⟨by rw [fst_of hE], by rw [ht, hE2]; exact hP, hS.F ht⟩) hS.2.2 dX7_command_472
        · refine lv_iconst (v := 1) hx hb dX7_command_467 (by decide) ?_
          refine lv_goto (tgt := 472) hx hb dX7_command_468 (by decide) ?_
          have hE : h_X7_command M how q = (1, M) := (by rw [h_X7_command, if_neg c_1, if_neg c_9, if_neg c_13, if_neg c_19, if_neg c_22, if_neg c_27, if_neg c_36, if_pos c_40, if_neg c_41, if_neg c_42, if_pos c_43])
          have hE2 := snd_of hE
          exact W.zret (ty := .boolean) hx hb hr rfl (fun t ht hW => ⟨by rw [fst_of hE], by rw [ht, hE2]; exact hP, hS.F ht⟩) hS.2.2 dX7_command_472
  by_cases c_44 : how = 9
  · refine lv_tableIn (off := 422) (tgt := 473) hx hb dX7_command_51 (by rw [c_44]; decide) (by rw [c_44]; decide) (by rw [c_44]; decide +kernel) (by decide) ?_
    refine lv_iload_n hx hb dX7_command_473 rfl (lv_at hl 9 rfl) ?_
    refine lv_sipush (v := 10000) hx hb dX7_command_474 (by decide) ?_
    refine irem_n (a := q) (b := 10000) hx hb ⟨by omega, by omega, by omega⟩ dX7_command_477 ?_
    refine lv_bipush (v := 100) hx hb dX7_command_478 (by decide) ?_
    refine lv_icmp_ge (tgt := 507) hx hb dX7_command_480 (by decide) (fun c_45 => ?_) (fun c_45 => ?_)
    · refine lv_iconst (v := 0) hx hb dX7_command_507 (by decide) ?_
      have hE : h_X7_command M how q = (0, M) := (by rw [h_X7_command, if_neg c_1, if_neg c_9, if_neg c_13, if_neg c_19, if_neg c_22, if_neg c_27, if_neg c_36, if_neg c_40, if_pos c_44, if_pos c_45])
      have hE2 := snd_of hE
      exact W.zret (ty := .boolean) hx hb hr rfl (fun t ht hW => ⟨by rw [fst_of hE], by rw [ht, hE2]; exact hP, hS.F ht⟩) hS.2.2 dX7_command_508
    · refine lv_iload_n hx hb dX7_command_483 rfl (lv_at hl 6 rfl) ?_
      refine cl_pi (rS (As := [.int (nI (q / 10000))]) (rest := []) ⟨hx, hb, hml, hown, hts⟩ (c_X7_isLength l G (nI (q / 10000))) (va_cwS 1 hts gX7_command_X7_isLength rfl rfl rfl (by decide +kernel) ⟨Nat.le_of_ble_eq_true rfl, Nat.le_of_ble_eq_true rfl⟩) trivial hO rfl hl.1 (Nat.le_of_ble_eq_true rfl) dX7_command_484 ⟨Nat.le_of_ble_eq_true rfl, Nat.le_of_ble_eq_true rfl⟩) ?_
      refine lv_if_eq (tgt := 507) hx hb dX7_command_487 (by decide) (fun c_46 => ?_) (fun c_46 => ?_)
      · refine lv_iconst (v := 0) hx hb dX7_command_507 (by decide) ?_
        have hE : h_X7_command M how q = (0, M) := (by rw [h_X7_command, if_neg c_1, if_neg c_9, if_neg c_13, if_neg c_19, if_neg c_22, if_neg c_27, if_neg c_36, if_neg c_40, if_pos c_44, if_neg c_45, if_pos c_46])
        have hE2 := snd_of hE
        exact W.zret (ty := .boolean) hx hb hr rfl (fun t ht hW => ⟨by rw [fst_of hE], by rw [ht, hE2]; exact hP, hS.F ht⟩) hS.2.2 dX7_command_508
      · refine lv_aload_n hx hb dX7_command_490 rfl (lv_at hl 7 rfl) ?_
        refine va_get (D := G.1) (ci := 5) (v := .ref (b + 3)) (C := RX7) (T := TX7) (N := 12) hx hb hts hin7 hown hO.1 hP 0 rfl rfl 4 (by decide) hf_16 (fun _ h9 => h9) rfl dX7_command_491 ?_
        refine lv_iload_n hx hb dX7_command_494 rfl (lv_at hl 6 rfl) ?_
        refine cl_pi (rS (As := [.ref (b + 3), .int (nI (q / 10000))]) (rest := []) ⟨hx, hb, hml, hown, hts⟩ (c_X7_fitsIn l G (b + 3) (mR M) (nI (q / 10000)) (len_ne (by assumption))) (va_cwS 2 hts gX7_command_X7_fitsIn rfl rfl rfl (by decide +kernel) ⟨Nat.le_of_ble_eq_true rfl, Nat.le_of_ble_eq_true rfl⟩) (va_P.sub hP [3] rfl) hO rfl hl.1 (Nat.le_of_ble_eq_true rfl) dX7_command_495 ⟨Nat.le_of_ble_eq_true rfl, Nat.le_of_ble_eq_true rfl⟩) ?_
        refine lv_iload hx hb dX7_command_498 (lv_at hl 1 rfl) ?_
        refine lv_icmp_lt (tgt := 507) hx hb dX7_command_500 (by decide) (fun c_47 => ?_) (fun c_47 => ?_)
        · refine lv_iconst (v := 0) hx hb dX7_command_507 (by decide) ?_
          have hE : h_X7_command M how q = (0, M) := (by rw [h_X7_command, if_neg c_1, if_neg c_9, if_neg c_13, if_neg c_19, if_neg c_22, if_neg c_27, if_neg c_36, if_neg c_40, if_pos c_44, if_neg c_45, if_neg c_46, if_pos c_47])
          have hE2 := snd_of hE
          exact W.zret (ty := .boolean) hx hb hr rfl (fun t ht hW => ⟨by rw [fst_of hE], by rw [ht, hE2]; exact hP, hS.F ht⟩) hS.2.2 dX7_command_508
        · refine lv_iconst (v := 1) hx hb dX7_command_503 (by decide) ?_
          refine lv_goto (tgt := 508) hx hb dX7_command_504 (by decide) ?_
          have hE : h_X7_command M how q = (1, M) := (by rw [h_X7_command, if_neg c_1, if_neg c_9, if_neg c_13, if_neg c_19, if_neg c_22, if_neg c_27, if_neg c_36, if_neg c_40, if_pos c_44, if_neg c_45, if_neg c_46, if_neg c_47])
          have hE2 := snd_of hE
          exact W.zret (ty := .boolean) hx hb hr rfl (fun t ht hW => ⟨by rw [fst_of hE], by rw [ht, hE2]; exact hP, hS.F ht⟩) hS.2.2 dX7_command_508
  refine lv_tableD (tgt := 509) hx hb dX7_command_51 (by intro i h1 h2 h3; rcases (show i = 1 ∨ i = 2 ∨ i = 3 ∨ i = 4 ∨ i = 5 ∨ i = 6 ∨ i = 7 ∨ i = 8 ∨ i = 9 by omega) with rfl | rfl | rfl | rfl | rfl | rfl | rfl | rfl | rfl; all_goals first | decide +kernel | (clear h1 h2; first | exact absurd (Int32.toInt_inj.mp (h3.symm.trans (show (1 : Int) = (1 : Int32).toInt by decide))) c_1 | exact absurd (Int32.toInt_inj.mp (h3.symm.trans (show (2 : Int) = (2 : Int32).toInt by decide))) c_9 | exact absurd (Int32.toInt_inj.mp (h3.symm.trans (show (3 : Int) = (3 : Int32).toInt by decide))) c_13 | exact absurd (Int32.toInt_inj.mp (h3.symm.trans (show (4 : Int) = (4 : Int32).toInt by decide))) c_19 | exact absurd (Int32.toInt_inj.mp (h3.symm.trans (show (5 : Int) = (5 : Int32).toInt by decide))) c_22 | exact absurd (Int32.toInt_inj.mp (h3.symm.trans (show (6 : Int) = (6 : Int32).toInt by decide))) c_27 | exact absurd (Int32.toInt_inj.mp (h3.symm.trans (show (7 : Int) = (7 : Int32).toInt by decide))) c_36 | exact absurd (Int32.toInt_inj.mp (h3.symm.trans (show (8 : Int) = (8 : Int32).toInt by decide))) c_40 | exact absurd (Int32.toInt_inj.mp (h3.symm.trans (show (9 : Int) = (9 : Int32).toInt by decide))) c_44)) (by decide) ?_
  refine lv_iconst (v := 0) hx hb dX7_command_509 (by decide) ?_
  have hE : h_X7_command M how q = (0, M) := (by rw [h_X7_command, if_neg c_1, if_neg c_9, if_neg c_13, if_neg c_19, if_neg c_22, if_neg c_27, if_neg c_36, if_neg c_40, if_neg c_44])
  have hE2 := snd_of hE
  exact W.zret (ty := .boolean) hx hb hr rfl (fun t ht hW => ⟨by rw [fst_of hE], by rw [ht, hE2]; exact hP, hS.F ht⟩) hS.2.2 dX7_command_510
