def CmdOk (M : Mo) (a : Int32 × St) (b : Int32 × Mo) : Prop := a.1 = b.1 ∧ RS a.2 (mR b.2) ∧ mA b.2 = mA M ∧ ∀ X, RelX X M → RelX X b.2
theorem cmd_0 {M : Mo} {S : St} (h : RS S (mR M)) : CmdOk M (0, S) (0, M) := ⟨rfl, h, rfl, fun _ z => z⟩
theorem cmd_1 {M : Mo} {S : St} (h : RS S (mR M)) : CmdOk M (1, S) (1, M) := ⟨rfl, h, rfl, fun _ z => z⟩
theorem cmd_R {M : Mo} {S : St} {g : Rw} (r : Int32) (h : RS S g) : CmdOk M (r, S) (r, oR M g) := ⟨rfl, h, rfl, fun _ z => z.oR _⟩
theorem cmd_act {M : Mo} {S : St} (h : RS S (mR M)) {A : Int32 × St} {B : Int32 × Rw} {P : Prop} [Decidable P] (no : P → A = (-1, S)) (yes : ¬ P → A.1 = B.1 ∧ RS A.2 B.2 ∧ ∃ n, n < 2 ^ 31 ∧ B.1 = nI n) : CmdOk M (if A.1 = -1 then (0, A.2) else (1, A.2)) (if P then (0, M) else if B.1 < 0 then (0, oR M B.2) else (1, oR M B.2)) := by
  by_cases c : P
  · rw [if_pos c, no c, if_pos rfl]
    exact cmd_0 h
  · obtain ⟨a, b, n, hn, e⟩ := yes c
    rw [if_neg c, a, e, if_neg (nI_m1 hn), if_neg (nI_pos hn)]
    exact cmd_R 1 b
theorem nI_e0 {a : Nat} (ha : a < 2 ^ 31) : nI a = 0 ↔ a = 0 := ⟨fun z => nI_inj (b := 0) ha (by omega) z, fun z => by rw [z]; rfl⟩
set_option maxHeartbeats 4000000 in
theorem cmd_eq {S : St} {M : Mo} (h : RS S (mR M)) {u : Nat} (hu : u < 1000000) : CmdOk M (h_X2_succeeds S (nI u)) (h_X7_command M (nI (u / 100000)) (u % 100000)) := by
  have d5 : nI u / 100000 = nI (u / 100000) := pk_div (d := 100000) (by omega) (by omega) (by omega)
  have r3 : nI u - nI u / 1000 * 1000 = nI (u % 1000) := pk_rem (d := 1000) (by omega) (by omega) (by omega)
  have r1 : nI u - nI u / 10 * 10 = nI (u % 10) := pk_rem (d := 10) (by omega) (by omega) (by omega)
  have r2 : nI u - nI u / 100 * 100 = nI (u % 100) := pk_rem (d := 100) (by omega) (by omega) (by omega)
  have e3 : nI u / 1000 = nI (u / 1000) := pk_div (d := 1000) (by omega) (by omega) (by omega)
  have e1 : nI u / 10 = nI (u / 10) := pk_div (d := 10) (by omega) (by omega) (by omega)
  have e2 : nI u / 100 = nI (u / 100) := pk_div (d := 100) (by omega) (by omega) (by omega)
  have e4 : nI u / 10000 = nI (u / 10000) := pk_div (d := 10000) (by omega) (by omega) (by omega)
  have q32 : nI (u / 1000) - nI (u / 1000) / 100 * 100 = nI (u / 1000 % 100) := pk_rem (d := 100) (by omega) (by omega) (by omega)
  have q12 : nI (u / 10) - nI (u / 10) / 100 * 100 = nI (u / 10 % 100) := pk_rem (d := 100) (by omega) (by omega) (by omega)
  have q13 : nI (u / 10) - nI (u / 10) / 1000 * 1000 = nI (u / 10 % 1000) := pk_rem (d := 1000) (by omega) (by omega) (by omega)
  have q22 : nI (u / 100) - nI (u / 100) / 100 * 100 = nI (u / 100 % 100) := pk_rem (d := 100) (by omega) (by omega) (by omega)
  have q23 : nI (u / 100) - nI (u / 100) / 1000 * 1000 = nI (u / 100 % 1000) := pk_rem (d := 1000) (by omega) (by omega) (by omega)
  have q41 : nI (u / 10000) - nI (u / 10000) / 10 * 10 = nI (u / 10000 % 10) := pk_rem (d := 10) (by omega) (by omega) (by omega)
  have q321 : nI (u / 1000 % 100) - nI (u / 1000 % 100) / 10 * 10 = nI (u / 1000 % 100 % 10) := pk_rem (d := 10) (by omega) (by omega) (by omega)
  rw [h_X2_succeeds, h_X2_comesAsTold, d5, r3, r1, r2, e3, e1, e2, e4, q32, q12, q13, q22, q23, q41, q321, h_X7_command]
  obtain ⟨q, hq⟩ : ∃ q, u % 100000 = q := ⟨_, rfl⟩
  obtain ⟨how, hh⟩ : ∃ how, u / 100000 = how := ⟨_, rfl⟩
  have hq5 : q < 100000 := by omega
  have hh9 : how < 10 := by omega
  have s3 : u % 1000 = q % 1000 := by omega
  have s1 : u % 10 = q % 10 := by omega
  have s2 : u % 100 = q % 100 := by omega
  have s32 : u / 1000 % 100 = q / 1000 := by omega
  have s12 : u / 10 % 100 = q / 10 % 100 := by omega
  have s13 : u / 10 % 1000 = q / 10 % 1000 := by omega
  have s22 : u / 100 % 100 = q / 100 % 100 := by omega
  have s23 : u / 100 % 1000 = q / 100 := by omega
  have s41 : u / 10000 % 10 = q / 10000 := by omega
  rw [hq, hh, s3, s1, s2, s32, s12, s13, s22, s23, s41]
  clear d5 r3 r1 r2 e3 e1 e2 e4 q32 q12 q13 q22 q23 q41 q321 s3 s1 s2 s32 s12 s13 s22 s23 s41 hq hh hu
  have ne : ∀ {a b : Nat}, a < 10 → b < 10 → a ≠ b → ¬ nI a = nI b := fun ha hb hab z => hab (nI_inj (by omega) (by omega) z)
  have car : ∀ c : Nat, c < 2 ^ 31 → f_X7_isCar (mR M) (nI c) = 0 → f_X4_isCar S (nI c) = 0 := fun c hc z => by rw [car_eq h.1 h.2.ri]; exact z
  rcases (show how = 0 ∨ how = 1 ∨ how = 2 ∨ how = 3 ∨ how = 4 ∨ how = 5 ∨ how = 6 ∨ how = 7 ∨ how = 8 ∨ how = 9 by omega) with rfl | rfl | rfl | rfl | rfl | rfl | rfl | rfl | rfl | rfl
  · rw [if_neg (show ¬ nI 0 = 1 by decide), if_neg (show ¬ nI 0 = 2 by decide), if_neg (show ¬ nI 0 = 3 by decide), if_neg (show ¬ nI 0 = 4 by decide), if_neg (show ¬ nI 0 = 5 by decide), if_neg (show ¬ nI 0 = 6 by decide), if_neg (show ¬ nI 0 = 7 by decide), if_neg (show ¬ nI 0 = 8 by decide), if_neg (show ¬ nI 0 = 9 by decide),
      if_neg (show ¬ nI 0 = 1 by decide), if_neg (show ¬ nI 0 = 2 by decide), if_neg (show ¬ nI 0 = 3 by decide), if_neg (show ¬ nI 0 = 4 by decide), if_neg (show ¬ nI 0 = 5 by decide), if_neg (show ¬ nI 0 = 6 by decide), if_neg (show ¬ nI 0 = 7 by decide), if_neg (show ¬ nI 0 = 8 by decide), if_neg (show ¬ nI 0 = 9 by decide)]
    exact cmd_0 h
  · rw [if_pos (show nI 1 = 1 by decide), if_pos (show nI 1 = 1 by decide)]
    generalize hA : h_X4_arrive S (nI (q / 10000)) (nI (q / 100 % 100)) = A
    have l1 : nI (q % 100) ≤ 1 ↔ q % 100 ≤ 1 := nI_leI (b := 1) (by omega) (by omega)
    have l2 : (2 : Int32) ≤ nI (q % 100) ↔ 2 ≤ q % 100 := nI_leI (a := 2) (by omega) (by omega)
    show CmdOk M (if nI (q % 100) ≤ 1 then _ else _) _
    by_cases c1 : q % 100 ≤ 1
    · rw [if_pos (l1.mpr c1), if_neg (show ¬ (2 : Int32) ≤ nI (q % 100) from fun z => by have := l2.mp z; omega)]
      by_cases c2 : f_X7_isLength (nI (q / 10000)) = 0
      · rw [if_pos c2, ← hA, come_len c2, if_pos rfl]
        exact cmd_0 h
      · rw [if_neg c2, ← stay_eq]
        by_cases c3 : f_X6_isStay (nI (q / 100 % 100)) = 0
        · rw [if_pos c3, ← hA, come_stay c3, if_pos rfl]
          exact cmd_0 h
        · rw [if_neg c3]
          by_cases c4 : (40 : Int32) ≤ mR M 0
          · rw [if_pos c4, ← hA, come_no h c4, if_pos rfl]
            exact cmd_0 h
          · rw [if_neg c4]
            obtain ⟨a, b, n, hn, e⟩ := come_yes h c4 c2 c3
            rw [hA] at a b
            rw [mR_oR]
            generalize h_X7_comeOn (mR M) (nI (q / 10000)) (nI ((q / 100) % 100)) = C at a b e ⊢
            have ep : ∀ c, f_X4_isParked A.2 c = f_X7_isParked C.2 c := fun c => parked_eq b.1 b.2.ri c
            rw [if_neg (show ¬ A.1 = -1 by rw [a, e]; exact nI_m1 hn), a, ep]
            by_cases c5 : nI (q % 100) = 1
            · rw [if_pos c5, if_pos c5]
              by_cases c6 : f_X7_isParked C.2 C.1 = 1
              · rw [if_pos c6, if_pos c6]; exact cmd_R 1 b
              · rw [if_neg c6, if_neg c6]; exact cmd_R 0 b
            · rw [if_neg c5, if_neg c5]
              by_cases c6 : f_X7_isParked C.2 C.1 = 0
              · rw [if_pos c6, if_pos c6]; exact cmd_R 1 b
              · rw [if_neg c6, if_neg c6]; exact cmd_R 0 b
    · rw [if_neg (fun z => c1 (l1.mp z)), if_pos (l2.mpr (by omega))]
      exact cmd_0 h
  · rw [if_neg (show ¬ nI 2 = 1 by decide), if_pos (show nI 2 = 2 by decide), if_neg (show ¬ nI 2 = 1 by decide), if_pos (show nI 2 = 2 by decide)]
    by_cases c1 : nI (q % 1000) = 0
    · rw [if_pos c1, if_pos c1]
      refine cmd_act h (fun z => dep_no h 2 z) (fun z => ?_)
      have y := dep_yes h (sta := 2) z (by decide) (by decide)
      rwa [nI_clamp (by omega)] at y
    · rw [if_neg c1, if_neg c1]; exact cmd_0 h
  · rw [if_neg (show ¬ nI 3 = 1 by decide), if_neg (show ¬ nI 3 = 2 by decide), if_pos (show nI 3 = 3 by decide), if_neg (show ¬ nI 3 = 1 by decide), if_neg (show ¬ nI 3 = 2 by decide), if_pos (show nI 3 = 3 by decide)]
    by_cases c1 : nI (q % 10) = 0
    · rw [if_pos c1, if_pos c1]
      by_cases c2 : f_X7_isCar (mR M) (nI (q / 1000)) = 0
      · rw [if_pos c2]
        have hn : f_X4_canShift S (nI (q / 1000)) (nI (q / 10 % 100)) = 0 := by
          rw [f_X4_canShift, f_X4_isParked, car _ (by omega) c2, if_pos rfl, if_pos rfl]
        rw [h_X4_shift, if_pos hn, if_pos rfl]
        exact cmd_0 h
      · rw [if_neg c2]
        by_cases c3 : f_X7_isCell (nI (q / 10 % 100)) = 0
        · rw [if_pos c3]
          have hn : f_X4_canShift S (nI (q / 1000)) (nI (q / 10 % 100)) = 0 := by
            rw [f_X4_canShift, cell_eq, if_pos c3]
            split <;> rfl
          rw [h_X4_shift, if_pos hn, if_pos rfl]
          exact cmd_0 h
        · rw [if_neg c3]
          have hx : q / 10 % 100 < 80 := cell_lt (by omega) c3
          exact cmd_act h (fun z => mv_no h (by omega) hx z) (fun z => mv_yes h (by omega) hx z)
    · rw [if_neg c1, if_neg c1]; exact cmd_0 h
  · rw [if_neg (show ¬ nI 4 = 1 by decide), if_neg (show ¬ nI 4 = 2 by decide), if_neg (show ¬ nI 4 = 3 by decide), if_pos (show nI 4 = 4 by decide), if_neg (show ¬ nI 4 = 1 by decide), if_neg (show ¬ nI 4 = 2 by decide), if_neg (show ¬ nI 4 = 3 by decide), if_pos (show nI 4 = 4 by decide), ← minutes_eq]
    by_cases c1 : q / 100 = 0
    · rw [if_pos ((nI_e0 (by omega)).mpr c1), show q % 100 = q by omega]
      exact cmd_act h (fun z => min_no z) (fun z => min_yes h z)
    · have c2 : f_X6_isMinutes (nI q) = 0 := by
        rw [f_X6_isMinutes, if_neg (show ¬ nI q < 1 from fun z => by
          have := (nI_ltI (b := 1) (by omega) (by omega)).mp z
          omega), if_pos (show (60 : Int32) < nI q from (nI_ltI (a := 60) (by omega) (by omega)).mpr (by omega))]
      rw [if_neg (fun z => c1 ((nI_e0 (by omega)).mp z)), if_pos c2]
      exact cmd_0 h
  · rw [if_neg (show ¬ nI 5 = 1 by decide), if_neg (show ¬ nI 5 = 2 by decide), if_neg (show ¬ nI 5 = 3 by decide), if_neg (show ¬ nI 5 = 4 by decide), if_pos (show nI 5 = 5 by decide), if_neg (show ¬ nI 5 = 1 by decide), if_neg (show ¬ nI 5 = 2 by decide), if_neg (show ¬ nI 5 = 3 by decide), if_neg (show ¬ nI 5 = 4 by decide), if_pos (show nI 5 = 5 by decide)]
    by_cases c1 : nI (q / 1000 % 10) = 0
    · rw [if_pos c1, if_pos c1]
      by_cases c2 : nI (q % 10) = 0
      · rw [if_pos c2, if_pos c2]
        exact cmd_act h (fun z => chg_no z) (fun z => chg_yes h (set_lt (by omega) z) z)
      · rw [if_neg c2, if_neg c2]; exact cmd_0 h
    · rw [if_neg c1, if_neg c1]; exact cmd_0 h
  · rw [if_neg (show ¬ nI 6 = 1 by decide), if_neg (show ¬ nI 6 = 2 by decide), if_neg (show ¬ nI 6 = 3 by decide), if_neg (show ¬ nI 6 = 4 by decide), if_neg (show ¬ nI 6 = 5 by decide), if_pos (show nI 6 = 6 by decide), if_neg (show ¬ nI 6 = 1 by decide), if_neg (show ¬ nI 6 = 2 by decide), if_neg (show ¬ nI 6 = 3 by decide), if_neg (show ¬ nI 6 = 4 by decide), if_neg (show ¬ nI 6 = 5 by decide), if_pos (show nI 6 = 6 by decide)]
    have l2 : (2 : Int32) ≤ nI (q % 1000) ↔ 2 ≤ q % 1000 := nI_leI (a := 2) (by omega) (by omega)
    have l1 : (1 : Int32) < nI (q % 10) ↔ 1 < q % 10 := nI_ltI (a := 1) (by omega) (by omega)
    have hyd : ∀ on : Int32, CmdOk M (if (h_X4_putHydrant S (nI (q / 1000)) on).1 = -1 then (0, (h_X4_putHydrant S (nI (q / 1000)) on).2) else (1, (h_X4_putHydrant S (nI (q / 1000)) on).2)) (if f_X7_canHydrant (mR M) (nI (q / 1000)) on = 0 then (0, M) else if (h_X7_hydrantOn (mR M) (q / 1000) on).1 < 0 then (0, oR M (h_X7_hydrantOn (mR M) (q / 1000) on).2) else (1, oR M (h_X7_hydrantOn (mR M) (q / 1000) on).2)) := fun on => by
      refine cmd_act h (fun z => hyd_no h z) (fun z => ?_)
      have y := hyd_yes h z
      rwa [nI_clamp (by omega)] at y
    by_cases c1 : q / 10 % 100 = 0
    · rw [if_pos ((nI_e0 (by omega)).mpr c1)]
      by_cases c2 : 1 < q % 10
      · rw [if_pos (l1.mpr c2), if_pos (l2.mpr (by omega))]
        exact cmd_0 h
      · rw [if_neg (fun z => c2 (l1.mp z)), if_neg (show ¬ (2 : Int32) ≤ nI (q % 1000) from fun z => by have := l2.mp z; omega), show q % 1000 = q % 10 by omega]
        by_cases c3 : nI (q % 10) = 1
        · rw [if_pos c3, if_pos c3]; exact hyd 1
        · rw [if_neg c3, if_neg c3]; exact hyd 0
    · rw [if_neg (fun z => c1 ((nI_e0 (by omega)).mp z)), if_pos (l2.mpr (by omega))]
      exact cmd_0 h
  · rw [if_neg (show ¬ nI 7 = 1 by decide), if_neg (show ¬ nI 7 = 2 by decide), if_neg (show ¬ nI 7 = 3 by decide), if_neg (show ¬ nI 7 = 4 by decide), if_neg (show ¬ nI 7 = 5 by decide), if_neg (show ¬ nI 7 = 6 by decide), if_pos (show nI 7 = 7 by decide), if_neg (show ¬ nI 7 = 1 by decide), if_neg (show ¬ nI 7 = 2 by decide), if_neg (show ¬ nI 7 = 3 by decide), if_neg (show ¬ nI 7 = 4 by decide), if_neg (show ¬ nI 7 = 5 by decide), if_neg (show ¬ nI 7 = 6 by decide), if_pos (show nI 7 = 7 by decide), length_eq, reason_eq h.1]
    have l1 : (10 : Int32) ≤ nI (q % 10000) ↔ 10 ≤ q % 10000 := nI_leI (a := 10) (by omega) (by omega)
    by_cases c1 : q / 10 % 1000 = 0
    · rw [if_pos ((nI_e0 (by omega)).mpr c1), if_neg (show ¬ (10 : Int32) ≤ nI (q % 10000) from fun z => by have := l1.mp z; omega)]
      by_cases c2 : f_X7_isLength (nI (q / 10000)) = 0
      · rw [if_pos c2, if_pos c2]; exact cmd_0 h
      · rw [if_neg c2, if_neg c2]
        by_cases c3 : f_X7_reason (mR M) (nI (q / 10000)) = nI (q % 10)
        · rw [if_pos c3, if_pos c3]; exact cmd_1 h
        · rw [if_neg c3, if_neg c3]; exact cmd_0 h
    · rw [if_neg (fun z => c1 ((nI_e0 (by omega)).mp z)), if_pos (l1.mpr (by omega))]
      exact cmd_0 h
  · rw [if_neg (show ¬ nI 8 = 1 by decide), if_neg (show ¬ nI 8 = 2 by decide), if_neg (show ¬ nI 8 = 3 by decide), if_neg (show ¬ nI 8 = 4 by decide), if_neg (show ¬ nI 8 = 5 by decide), if_neg (show ¬ nI 8 = 6 by decide), if_neg (show ¬ nI 8 = 7 by decide), if_pos (show nI 8 = 8 by decide), if_neg (show ¬ nI 8 = 1 by decide), if_neg (show ¬ nI 8 = 2 by decide), if_neg (show ¬ nI 8 = 3 by decide), if_neg (show ¬ nI 8 = 4 by decide), if_neg (show ¬ nI 8 = 5 by decide), if_neg (show ¬ nI 8 = 6 by decide), if_neg (show ¬ nI 8 = 7 by decide), if_pos (show nI 8 = 8 by decide), car_eq h.1 h.2.ri]
    have l1 : (10 : Int32) ≤ nI (q % 1000) ↔ 10 ≤ q % 1000 := nI_leI (a := 10) (by omega) (by omega)
    have hm := h.2.ri.m
    by_cases c1 : q / 10 % 100 = 0
    · rw [if_pos ((nI_e0 (by omega)).mpr c1), if_neg (show ¬ (10 : Int32) ≤ nI (q % 1000) from fun z => by have := l1.mp z; omega)]
      by_cases c2 : f_X7_isCar (mR M) (nI (q / 1000)) = 0
      · rw [if_pos c2, if_pos c2]; exact cmd_0 h
      · rw [if_neg c2, if_neg c2]
        have hk : q / 1000 < gm (mR M) := car_lt h.2.ri (by omega) c2
        rw [get_n _ (by omega) (by omega), ← (h.1.2.2.1 _ hk).2.2.1]
        by_cases c3 : f_X7_of (mR M) (q / 1000) 2 = nI (q % 10)
        · rw [if_pos c3, if_pos c3]; exact cmd_1 h
        · rw [if_neg c3, if_neg c3]; exact cmd_0 h
    · rw [if_neg (fun z => c1 ((nI_e0 (by omega)).mp z)), if_pos (l1.mpr (by omega))]
      exact cmd_0 h
  · rw [if_neg (show ¬ nI 9 = 1 by decide), if_neg (show ¬ nI 9 = 2 by decide), if_neg (show ¬ nI 9 = 3 by decide), if_neg (show ¬ nI 9 = 4 by decide), if_neg (show ¬ nI 9 = 5 by decide), if_neg (show ¬ nI 9 = 6 by decide), if_neg (show ¬ nI 9 = 7 by decide), if_neg (show ¬ nI 9 = 8 by decide), if_pos (show nI 9 = 9 by decide), if_neg (show ¬ nI 9 = 1 by decide), if_neg (show ¬ nI 9 = 2 by decide), if_neg (show ¬ nI 9 = 3 by decide), if_neg (show ¬ nI 9 = 4 by decide), if_neg (show ¬ nI 9 = 5 by decide), if_neg (show ¬ nI 9 = 6 by decide), if_neg (show ¬ nI 9 = 7 by decide), if_neg (show ¬ nI 9 = 8 by decide), if_pos (show nI 9 = 9 by decide), length_eq]
    have l1 : (100 : Int32) ≤ nI (q % 10000) ↔ 100 ≤ q % 10000 := nI_leI (a := 100) (by omega) (by omega)
    by_cases c1 : q / 100 % 100 = 0
    · rw [if_pos ((nI_e0 (by omega)).mpr c1), if_neg (show ¬ (100 : Int32) ≤ nI (q % 10000) from fun z => by have := l1.mp z; omega)]
      by_cases c2 : f_X7_isLength (nI (q / 10000)) = 0
      · rw [if_pos c2, if_pos c2]; exact cmd_0 h
      · rw [if_neg c2, if_neg c2]
        have ef : f_X4_fittingByGaps S (nI (q / 10000)) = f_X7_fitsIn (mR M) (nI (q / 10000)) := by
          obtain ⟨j, j2, j8, ej⟩ := len_2e c2
          obtain ⟨r, hr, er⟩ := h.2.ri.2.1
          rw [ej]
          exact fit_eq ⟨by omega, j8⟩ hr er h.1.1.2.2.2.1.symm h.1.2.2.2
        rw [ef]
        by_cases c3 : f_X7_fitsIn (mR M) (nI (q / 10000)) < nI (q % 100)
        · rw [if_pos c3, if_pos c3]; exact cmd_0 h
        · rw [if_neg c3, if_neg c3]; exact cmd_1 h
    · rw [if_neg (fun z => c1 ((nI_e0 (by omega)).mp z)), if_pos (l1.mpr (by omega))]
      exact cmd_0 h
