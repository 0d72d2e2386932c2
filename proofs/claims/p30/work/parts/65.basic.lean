theorem i64_lt {a b : Int32} : a.toInt64 < b.toInt64 ↔ a < b := by
  rw [Int64.lt_iff_toInt_lt, Int32.lt_iff_toInt_lt, Int32.toInt_toInt64, Int32.toInt_toInt64]
theorem in_eq (x : Int32) {lo hi : Int64} (l h : Int32) (hl : l.toInt64 = lo) (hh : h.toInt64 = hi) : f_X7_in x.toInt64 lo hi = if x < l then 0 else if h < x then 0 else 1 := by
  subst hl hh
  rw [f_X7_in]
  by_cases c1 : x < l
  · rw [if_pos c1, if_pos ((lg_cmp_lt _ _).mpr (i64_lt.mpr c1))]
  · rw [if_neg c1, if_neg (fun z => c1 (i64_lt.mp ((lg_cmp_lt _ _).mp z)))]
    by_cases c2 : h < x
    · rw [if_pos c2, if_pos ((lg_cmp_gt _ _).mpr (i64_lt.mpr c2))]
    · rw [if_neg c2, if_neg (fun z => c2 (i64_lt.mp ((lg_cmp_gt _ _).mp z)))]
theorem i32_ge {a : Nat} {x : Int32} (ha : a + 1 < 2 ^ 31) : nI (a + 1) ≤ x ↔ nI a < x := by
  rw [Int32.le_iff_toInt_le, Int32.lt_iff_toInt_lt, nI_toInt (by omega), nI_toInt (by omega)]
  omega
theorem cell_eq (x : Int32) : f_X6_isCell x = f_X7_isCell x := by
  rw [f_X7_isCell, in_eq x 0 79 (by decide) (by decide), f_X6_isCell]
  by_cases c : (79 : Int32) < x
  · rw [if_pos c, if_pos (show (80 : Int32) ≤ x from (i32_ge (a := 79) (by omega)).mpr c)]
  · rw [if_neg c, if_neg (show ¬ (80 : Int32) ≤ x from fun z => c ((i32_ge (a := 79) (by omega)).mp z))]
theorem length_eq (x : Int32) : f_X6_isLength x = f_X7_isLength x := by
  rw [f_X7_isLength, in_eq x 2 8 (by decide) (by decide), f_X6_isLength]
theorem stay_eq (x : Int32) : f_X6_isStay x = f_X7_in x.toInt64 1 99 := by
  rw [in_eq x 1 99 (by decide) (by decide), f_X6_isStay]
theorem minutes_eq (x : Int32) : f_X6_isMinutes x = f_X7_in x.toInt64 1 60 := by
  rw [in_eq x 1 60 (by decide) (by decide), f_X6_isMinutes]
theorem setting_eq (w v : Int32) : f_X6_isSettingValue w v = f_X7_isSetting w v := by
  rw [f_X7_isSetting, in_eq v 0 2 (by decide) (by decide), in_eq v 0 4 (by decide) (by decide), in_eq v 1 30 (by decide) (by decide), f_X6_isSettingValue]
  by_cases c0 : w = 0
  · subst c0
    by_cases c1 : v < 0 <;> by_cases c2 : (2 : Int32) < v <;> simp [c1, c2]
  · by_cases c1 : w = 1
    · subst c1
      by_cases c2 : v < 0 <;> by_cases c3 : (4 : Int32) < v <;> simp [c2, c3]
    · by_cases c2 : w = 2
      · subst c2
        by_cases c3 : v < 1 <;> by_cases c4 : (30 : Int32) < v <;> simp [c3, c4]
      · simp [c0, c1, c2]
theorem Rel.N {S : St} {g : Rw} (h : Rel S g) (hi : RI g) : sN S = nI (gm g) ∧ gm g ≤ 40 := ⟨h.1.1.symm.trans hi.m.1, hi.m.2⟩
theorem car_eq {S : St} {g : Rw} (h : Rel S g) (hi : RI g) (c : Int32) : f_X4_isCar S c = f_X7_isCar g c := by
  have h0 := h.1.1
  obtain ⟨e, hm⟩ := hi.m
  rw [f_X7_isCar, f_X4_isCar, ← h0, e]
  by_cases c0 : gm g = 0
  · rw [c0, in_eq c 0 (-1) (by decide) (by decide)]
    by_cases c1 : c < 0
    · rw [if_pos c1, if_pos c1]
    · rw [if_neg c1, if_neg c1]
      obtain ⟨j, hj, rfl⟩ := nI_of c1
      rw [if_pos ((nI_leI (a := 0) (by omega) hj).mpr (Nat.zero_le _)), if_pos]
      rw [Int32.lt_iff_toInt_lt, nI_toInt hj, show (-1 : Int32).toInt = -1 by decide]
      omega
  · obtain ⟨k, hk⟩ : ∃ k, gm g = k + 1 := ⟨gm g - 1, by omega⟩
    have e1 : nI (k + 1) - 1 = nI k := by
      rw [show (1 : Int32) = nI 1 from rfl, pk_sub (by omega)]
      rfl
    rw [hk, in_eq c 0 (nI k) (by decide) (by rw [e1])]
    by_cases c2 : nI k < c
    · rw [if_pos c2, if_pos ((i32_ge (by omega)).mpr c2)]
    · rw [if_neg c2, if_neg (fun z => c2 ((i32_ge (by omega)).mp z))]
theorem isCar_n {g : Rw} (hi : RI g) {c : Nat} (hc : c < gm g) : f_X7_isCar g (nI c) = 1 := by
  obtain ⟨e, hm⟩ := hi.m
  obtain ⟨k, hk⟩ : ∃ k, gm g = k + 1 := ⟨gm g - 1, by omega⟩
  have e1 : nI (k + 1) - 1 = nI k := by
    rw [show (1 : Int32) = nI 1 from rfl, pk_sub (by omega)]
    rfl
  rw [f_X7_isCar, e, hk, in_eq _ 0 (nI k) (by decide) (by rw [e1]), if_neg (nI_pos (by omega)), if_neg (fun z => by
    rw [nI_ltI (by omega) (by omega)] at z
    omega)]
theorem parked_eq {S : St} {g : Rw} (h : Rel S g) (hi : RI g) (c : Int32) : f_X4_isParked S c = f_X7_isParked g c := by
  rw [f_X4_isParked, f_X7_isParked, car_eq h hi]
  by_cases c0 : f_X7_isCar g c = 0
  · rw [if_pos c0, if_pos c0]
  · rw [if_neg c0, if_neg c0]
    obtain ⟨j, hj, rfl⟩ := car_n hi.m.1 hi.m.2 c0
    have := hi.m.2
    rw [get_n _ (by omega) (by omega), nI_clamp (by omega), (h.2.2.1 j hj).2.2.1]
theorem free_eq {S : St} {g : Rw} (h : Rel S g) {x : Nat} (hx : x < 80) : f_X4_isFree S (nI x) = if g (7 + x) = -1 then 1 else 0 := by
  rw [f_X4_isFree, f_X6_isCell, if_neg (nI_pos (by omega)), if_neg (s80 hx), if_neg (by decide), get_n _ hx (by omega), h.2.1 x hx]
theorem hyd_eq {S : St} {g : Rw} (h : Rel S g) (x on : Int32) : f_X4_allowsHydrant S x on = f_X7_canHydrant g x on := by
  rw [f_X4_allowsHydrant, f_X7_canHydrant, cell_eq]
  by_cases c0 : f_X7_isCell x = 0
  · rw [if_pos c0, if_pos c0]
  · rw [if_neg c0, if_neg c0]
    obtain ⟨j, hj, rfl⟩ := rcell_n c0
    rw [free_eq h hj, get_n _ hj (by omega), show (7 : Int32) + nI j = nI (7 + j) from nI_add 7 j, nI_clamp (by omega), h.2.1 j hj]
    by_cases c1 : on = 0
    · rw [if_pos c1, if_pos c1]
    · rw [if_neg c1, if_neg c1]
      by_cases c2 : sC S j = -1
      · rw [if_pos c2, if_pos c2, if_neg (by decide)]
      · rw [if_neg c2, if_neg c2, if_pos rfl]
theorem with_eq {S : St} {g : Rw} (h : Rel S g) (mk : Int32) : f_X4_cellsWith S mk = f_X7_cellsWith g mk := by
  rw [f_X4_cellsWith, f_X7_cellsWith]
  suffices ∀ (n k : Nat) (acc : Int32), k ≤ 80 → lp_cellsWith S mk n k acc = lp_rWith g mk n k acc from this _ _ _ (by omega)
  intro n
  induction n with
  | zero => intro k acc _; rfl
  | succ n ih =>
    intro k acc hk
    rw [lp_cellsWith, lp_rWith]
    by_cases c1 : (80 : Int32) ≤ nI k
    · rw [if_pos c1, if_pos c1]
    · have hlt : k < 80 := kN (B := 80) c1 (by omega) (by omega)
      rw [if_neg c1, if_neg c1, h.2.1 k hlt, Int32.add_zero]
      by_cases c2 : sC S k = mk
      · rw [if_pos c2, if_pos c2]
        exact ih _ _ (by omega)
      · rw [if_neg c2, if_neg c2]
        exact ih _ _ (by omega)
theorem many_eq {S : St} {g : Rw} (h : Rel S g) (hi : RI g) (sta : Int32) : f_X4_carsInState S sta = f_X7_many g sta := by
  obtain ⟨e, hm⟩ := hi.m
  rw [f_X4_carsInState, f_X7_many, ← h.1.1]
  suffices ∀ (n k : Nat) (acc : Int32), k ≤ gm g → lp_carsIn S sta n k acc = lp_rMany g sta n k acc from this _ _ _ (Nat.zero_le _)
  intro n
  induction n with
  | zero => intro k acc _; rfl
  | succ n ih =>
    intro k acc hk
    rw [lp_carsIn, lp_rMany, ← h.1.1]
    by_cases c1 : g 0 ≤ nI k
    · rw [if_pos c1, if_pos c1]
    · rw [if_neg c1, if_neg c1]
      rw [e, nI_leI (by omega) (by omega)] at c1
      rw [get_n _ (by omega) (by omega), (h.2.2.1 k (by omega)).2.2.1, Int32.add_zero]
      by_cases c2 : sT S k = sta
      · rw [if_pos c2, if_pos c2]
        exact ih _ _ (by omega)
      · rw [if_neg c2, if_neg c2]
        exact ih _ _ (by omega)
