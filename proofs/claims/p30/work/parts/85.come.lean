/-! a car that comes -/
theorem next_cong {g g' : Rw} (h : SameC g g') {k : Nat} (hk : k ≤ 80) : f_X7_nextGap g' k = f_X7_nextGap g k := by
  rw [f_X7_nextGap, f_X7_nextGap, cells_cong h hk]
  exact from_cong h (cells_le g hk)
theorem rRule_cong {g g' : Rw} (h : SameC g g') (h2 : g' 2 = g 2) (h3 : g' 3 = g 3) (len : Int32) : ∀ (n : Nat) (best : Int32) (k : Nat), k ≤ 80 → (best = -1 ∨ ∃ b, b < 80 ∧ best = nI b) → lp_rRule g' len n best k = lp_rRule g len n best k := by
  intro n
  induction n with
  | zero => intro best k _ _; rfl
  | succ n ih =>
    intro best k hk hb
    rw [lp_rRule, lp_rRule, h2, h3, cells_cong h hk, next_cong h hk]
    by_cases c1 : (80 : Int32) ≤ nI k
    · rw [if_pos c1, if_pos c1]
    · have hlt : k < 80 := kN (B := 80) c1 (by omega) (by omega)
      have hx := (next_gt g hlt).2
      have i1 := ih best _ hx hb
      have i2 := ih (nI k) _ hx (Or.inr ⟨k, hlt, rfl⟩)
      rw [if_neg c1, if_neg c1]
      by_cases c2 : nI (f_X7_gapCells g k) < len + g 3
      · rw [if_pos c2, if_pos c2, if_pos rfl, if_pos rfl]
        exact i1
      · rw [if_neg c2, if_neg c2, if_neg (show ¬ (1 : Int32) = 0 by decide), if_neg (show ¬ (1 : Int32) = 0 by decide)]
        by_cases c3 : best = -1
        · rw [if_pos c3, if_pos c3]
          exact i2
        · rw [if_neg c3, if_neg c3]
          by_cases c4 : g 2 = 1
          · rw [if_pos c4, if_pos c4]
            obtain ⟨b, hb8, eb⟩ := hb.elim (fun z => absurd z c3) id
            rw [show f_X7_gapCells g' best.toNatClampNeg = f_X7_gapCells g best.toNatClampNeg by
              rw [eb, nI_clamp (by omega)]
              exact cells_cong h (by omega)]
            by_cases c5 : nI (f_X7_gapCells g best.toNatClampNeg) ≤ nI (f_X7_gapCells g k)
            · rw [if_pos c5, if_pos c5]
              exact i1
            · rw [if_neg c5, if_neg c5]
              exact i2
          · rw [if_neg c4, if_neg c4]
            exact i1
theorem rPick_cong {g g' : Rw} (h : SameC g g') (h3 : g' 3 = g 3) (len : Int32) : ∀ (n : Nat) (left : Int32) (k : Nat), k ≤ 80 → (lp_rPick len n left k g').1 = (lp_rPick len n left k g).1 := by
  intro n
  induction n with
  | zero => intro left k _; rfl
  | succ n ih =>
    intro left k hk
    rw [lp_rPick, lp_rPick, h3, cells_cong h hk, next_cong h hk]
    by_cases c1 : (80 : Int32) ≤ nI k
    · rw [if_pos c1, if_pos c1]
    · have hlt : k < 80 := kN (B := 80) c1 (by omega) (by omega)
      have hx := (next_gt g hlt).2
      rw [if_neg c1, if_neg c1]
      by_cases c2 : nI (f_X7_gapCells g k) < len + g 3
      · rw [if_pos c2, if_pos c2]
        by_cases c3 : (0 : Int32) ≤ left
        · rw [if_pos c3, if_pos c3]
          exact ih _ _ hx
        · rw [if_neg c3, if_neg c3]
      · rw [if_neg c2, if_neg c2]
        by_cases c3 : nI (f_X7_gapCells g k) - len + 1 ≤ left
        · rw [if_pos c3, if_pos c3]
          exact ih _ _ hx
        · rw [if_neg c3, if_neg c3]
theorem rAll_cong {g g' : Rw} (h : SameC g g') (h3 : g' 3 = g 3) (hc : f_X7_chance g' = f_X7_chance g) (len : Int32) : ∀ (n : Nat) (t : Int32) (k : Nat), k ≤ 80 → (lp_rAll g' len n t k).1 = (lp_rAll g len n t k).1 := by
  intro n
  induction n with
  | zero => intro t k _; rfl
  | succ n ih =>
    intro t k hk
    rw [lp_rAll, lp_rAll, h3, hc, cells_cong h hk, next_cong h hk]
    by_cases c1 : (80 : Int32) ≤ nI k
    · rw [if_pos c1, if_pos c1]
      by_cases c2 : t = 0
      · rw [if_pos c2, if_pos c2]
      · rw [if_neg c2, if_neg c2]
        generalize f_X7_chance g * 6364136223846793005 + 1442695040888963407 = y
        have hs : SameC (h_X7_layChance g y) (h_X7_layChance g' y) := fun i h1 h2 => by
          rw [lay_3 g' y (by omega) (by omega), lay_3 g y (by omega) (by omega)]
          exact h i h1 h2
        rw [from_cong hs (by omega)]
        exact rPick_cong hs (by rw [lay_3 g' y (by omega) (by omega), lay_3 g y (by omega) (by omega), h3]) len _ _ _ (from_le _ (by omega)).2
    · have hlt : k < 80 := kN (B := 80) c1 (by omega) (by omega)
      have hx := (next_gt g hlt).2
      rw [if_neg c1, if_neg c1]
      by_cases c2 : nI (f_X7_gapCells g k) < len + g 3
      · rw [if_pos c2, if_pos c2]
        exact ih _ _ hx
      · rw [if_neg c2, if_neg c2]
        exact ih _ _ hx
theorem place_cong {g g' : Rw} (h : SameC g g') (e : ∀ i, 2 ≤ i → i < 7 → g' i = g i) (len : Int32) : (h_X7_placeFor g' len).1 = (h_X7_placeFor g len).1 := by
  have h0 := (from_le g (j := 0) (by omega)).2
  rw [h_X7_placeFor, h_X7_placeFor, e 2 (by omega) (by omega)]
  by_cases c : g 2 = 2
  · rw [if_pos c, if_pos c]
    show (h_X7_byChance g' len).1 = (h_X7_byChance g len).1
    rw [h_X7_byChance, h_X7_byChance, from_cong h (by omega)]
    exact rAll_cong h (e 3 (by omega) (by omega)) (chance_cong (e 5 (by omega) (by omega)) (e 6 (by omega) (by omega))) len _ _ _ h0
  · rw [if_neg c, if_neg c]
    show f_X7_byRule g' len = f_X7_byRule g len
    rw [f_X7_byRule, f_X7_byRule, from_cong h (by omega)]
    exact rRule_cong h (e 2 (by omega) (by omega)) (e 3 (by omega) (by omega)) len _ _ _ h0 (Or.inl rfl)
/-- the gap in which a place lies -/
def Gp (g : Rw) (j r : Nat) (v : Int32) : Prop := v = -1 ∨ ∃ s y, isSt g s ∧ v = nI y ∧ s ≤ y ∧ y + j ≤ s + f_X7_gapCells g s ∧ j + r ≤ f_X7_gapCells g s
theorem rule_gap {g : Rw} {j r : Nat} (hj : j ≤ 8) (hr : r ≤ 4) (h3 : g 3 = nI r) : ∀ n best k, k ≤ 80 → (k = 80 ∨ isSt g k) → 80 < k + n → Gp g j r best → Gp g j r (lp_rRule g (nI j) n best k) := by
  intro n
  induction n with
  | zero => intro best k h1 h2 h3; omega
  | succ n ih =>
    intro best k hk hs hn hb
    rw [lp_rRule]
    rcases hs with rfl | hs
    · rw [if_pos p80]
      exact hb
    · obtain ⟨u1, u2, u3⟩ := next_up hs
      have hc := cells_le g (j := k) (by have := hs.1; omega)
      have i1 := ih best _ u2 u3 (by omega) hb
      rw [if_neg (s80 hs.1), h3, nI_add]
      by_cases c : nI (f_X7_gapCells g k) < nI (j + r)
      · rw [if_pos c, if_pos rfl]
        exact i1
      · have c' : j + r ≤ f_X7_gapCells g k := by
          rcases Nat.lt_or_ge (f_X7_gapCells g k) (j + r) with z | z
          · exact absurd (nI_lt z (by omega)) c
          · exact z
        have i2 := ih (nI k) _ u2 u3 (by omega) (Or.inr ⟨k, k, hs, rfl, Nat.le_refl _, by omega, c'⟩)
        rw [if_neg c, if_neg (show ¬ (1 : Int32) = 0 by decide)]
        by_cases c2 : best = -1
        · rw [if_pos c2]
          exact i2
        · rw [if_neg c2]
          by_cases c3 : g 2 = 1
          · rw [if_pos c3]
            by_cases c4 : nI (f_X7_gapCells g best.toNatClampNeg) ≤ nI (f_X7_gapCells g k)
            · rw [if_pos c4]
              exact i1
            · rw [if_neg c4]
              exact i2
          · rw [if_neg c3]
            exact i1
theorem pick_gap {g : Rw} {j r : Nat} (hj : j ≤ 8) (hr : r ≤ 4) (h3 : g 3 = nI r) : ∀ (n i k : Nat), i < 2 ^ 31 → k ≤ 80 → (k = 80 ∨ isSt g k) → 80 < k + n → Gp g j r (lp_rPick (nI j) n (nI i) k g).1 := by
  intro n
  induction n with
  | zero => intro i k hi hk hs hn; omega
  | succ n ih =>
    intro i k hi hk hs hn
    rw [lp_rPick]
    rcases hs with rfl | hs
    · rw [if_pos p80]
      exact Or.inl rfl
    · obtain ⟨u1, u2, u3⟩ := next_up hs
      obtain ⟨e1, e2⟩ := key_room hj hr h3 (g := g) hk
      rw [if_neg (s80 hs.1)]
      by_cases c2 : nI (f_X7_gapCells g k) < nI j + g 3
      · rw [if_pos c2, if_pos (show (0 : Int32) ≤ nI i from nI_pos' hi), show nI i - 0 = nI i from pk_sub (Nat.zero_le i)]
        exact ih i _ hi u2 u3 (by omega)
      · rw [if_neg c2]
        rw [e1] at c2
        have e3 : nI (f_X7_gapCells g k) - nI j + 1 = nI (f_X7_gapCells g k - j + 1) := by rw [pk_sub (by omega), nI_1]
        rw [e3]
        by_cases c3 : nI (f_X7_gapCells g k - j + 1) ≤ nI i
        · rw [if_pos c3]
          rw [nI_leI (by omega) hi] at c3
          rw [pk_sub c3]
          exact ih _ _ (by omega) u2 u3 (by omega)
        · rw [if_neg c3]
          rw [nI_leI (by omega) hi] at c3
          exact Or.inr ⟨k, k + i, hs, nI_add k i, by omega, by omega, by omega⟩
theorem Gp.cong {g g' : Rw} (h : SameC g g') {j r : Nat} {v : Int32} (hg : Gp g' j r v) : Gp g j r v := by
  rcases hg with z | ⟨s, y, hs, e, h1, h2, h3⟩
  · exact Or.inl z
  · rw [cells_cong h (by have := hs.1; omega)] at h2 h3
    exact Or.inr ⟨s, y, (isSt_cong h s).mp hs, e, h1, h2, h3⟩
theorem place_gap {g : Rw} (h : Inv g) {j : Nat} (hj : 2 ≤ j ∧ j ≤ 8) : Gp g j (cO g) (h_X7_placeFor g (nI j)).1 := by
  obtain ⟨⟨e3, l3⟩, -, -⟩ := h.num
  have fu := first_up (g := g)
  rw [h_X7_placeFor]
  by_cases c : g 2 = 2
  · rw [if_pos c]
    show Gp g j (cO g) (h_X7_byChance g (nI j)).1
    have e := rAll_end (g := g) (j := j) ⟨by omega, hj.2⟩ l3 e3 81 0 (f_X7_gapFrom g 0) (by omega) fu.1 (by omega)
    have ht := tot_le g (cO g) (j := j) (by omega) 81 _ fu.1
    rw [Nat.zero_add] at e
    rw [h_X7_byChance, show (0 : Int32) = nI 0 from rfl, e]
    by_cases c2 : nI (tot g j (cO g) 81 (f_X7_gapFrom g 0)) = 0
    · rw [if_pos c2]
      exact Or.inl rfl
    · have t0 : 0 < tot g j (cO g) 81 (f_X7_gapFrom g 0) := Nat.pos_of_ne_zero fun z => c2 (by rw [z]; rfl)
      obtain ⟨i, hi, e2⟩ := ush_n (f_X7_chance g * 6364136223846793005 + 1442695040888963407)
      rw [if_neg c2, e2, pk_rem hi t0 (by omega)]
      generalize f_X7_chance g * 6364136223846793005 + 1442695040888963407 = y9
      have hc : SameC g (h_X7_layChance g y9) := fun i h1 _ => lay_3 g _ (by omega) (by omega)
      have fu2 := first_up (g := h_X7_layChance g y9)
      exact (pick_gap hj.2 l3 ((lay_3 g _ (by omega) (by omega)).trans e3) _ _ _ (Nat.lt_of_lt_of_le (Nat.mod_lt _ t0) (by omega)) fu2.1 fu2.2 (by omega)).cong hc
  · rw [if_neg c]
    show Gp g j (cO g) (f_X7_byRule g (nI j))
    rw [f_X7_byRule]
    exact rule_gap hj.2 l3 e3 81 _ _ fu.1 fu.2 (by omega) (Or.inl rfl)
theorem div_sum {j a b r : Nat} (hj : 2 ≤ j ∧ j ≤ 8) (h : r ≤ a + b) : (a - r) / j + (b - r) / j + 1 ≤ (a + j + b - r) / j := by
  rcases (show j = 2 ∨ j = 3 ∨ j = 4 ∨ j = 5 ∨ j = 6 ∨ j = 7 ∨ j = 8 by omega) with rfl | rfl | rfl | rfl | rfl | rfl | rfl <;> omega
theorem cnt_fill2 {g : Rw} {j r s x : Nat} {mk : Int32} (hj : 2 ≤ j ∧ j ≤ 8) (hmk : mk ≠ -1) (hs : isSt g s) (hsx : s ≤ x) (hxj : x + j ≤ s + f_X7_gapCells g s) (hc : j + r ≤ f_X7_gapCells g s) : sm (cnt (h_X7_fill g x j mk) j r) 80 + 1 ≤ sm (cnt g j r) 80 := by
  have hs8 := hs.1
  have hc80 := cells_le g (j := s) (by omega)
  have hx80 : x + j ≤ 80 := by omega
  have fr : ∀ i, s ≤ i → i < s + f_X7_gapCells g s → g (7 + i) = -1 := fun i h1 h2 => cells_free g (by omega) h1 h2
  have cl : ∀ i, h_X7_fill g x j mk (7 + i) = if x ≤ i ∧ i < x + j then mk else g (7 + i) := fun i => by
    rw [fill_at g _ hx80]
    by_cases z : x ≤ i ∧ i < x + j
    · rw [if_pos z, if_pos (by omega)]
    · rw [if_neg z, if_neg (by omega)]
  have nin : ∀ i, x ≤ i → i < x + j → ¬ h_X7_fill g x j mk (7 + i) = -1 := fun i h1 h2 => by
    rw [cl, if_pos ⟨h1, h2⟩]; exact hmk
  have out : ∀ i, ¬ (x ≤ i ∧ i < x + j) → h_X7_fill g x j mk (7 + i) = g (7 + i) := fun i h => by rw [cl, if_neg h]
  have c0 : cnt g j r s = (f_X7_gapCells g s - r) / j := if_pos hs
  have c1 : cnt (h_X7_fill g x j mk) j r s = (x - s - r) / j := by
    by_cases e : x = s
    · have n1 : ¬ isSt (h_X7_fill g x j mk) s := fun z => nin s (by omega) (by omega) z.2.1
      rw [cnt, if_neg n1, show x - s - r = 0 by omega, Nat.zero_div]
    · have st : isSt (h_X7_fill g x j mk) s := by
        refine ⟨hs8, by rw [out s (by omega)]; exact hs.2.1, ?_⟩
        rcases hs.2.2 with y | y
        · exact Or.inl y
        · exact Or.inr (by rw [out _ (by omega)]; exact y)
      have hcc := cells_eq (g := h_X7_fill g x j mk) (k := s) (e := x) hsx (by omega) (fun i i1 i2 => by rw [out i (by omega)]; exact fr i i1 (by omega)) (Or.inr (nin x (by omega) (by omega)))
      rw [cnt, if_pos st, hcc]
  have same : ∀ i, i < 80 → i ≠ s → i ≠ x + j → cnt (h_X7_fill g x j mk) j r i = cnt g j r i := fun i hi h1 h2 => by
    by_cases z : isSt g i
    · have hio : i < s ∨ s + f_X7_gapCells g s ≤ i := by
        rcases Nat.lt_or_ge i s with w | w
        · exact Or.inl w
        · rcases Nat.lt_or_ge i (s + f_X7_gapCells g s) with v | v
          · rcases z.2.2 with y | y
            · omega
            · exact absurd (fr (i - 1) (by omega) (by omega)) y
          · exact Or.inr v
      have hni : ¬ (x ≤ i ∧ i < x + j) := fun w => by omega
      have hnp : ¬ (x ≤ i - 1 ∧ i - 1 < x + j) ∨ i = 0 := by omega
      have z' : isSt (h_X7_fill g x j mk) i := by
        refine ⟨hi, by rw [out i hni]; exact z.2.1, ?_⟩
        rcases z.2.2 with y | y
        · exact Or.inl y
        · rcases hnp with w | w
          · exact Or.inr (by rw [out _ w]; exact y)
          · exact Or.inl w
      have hle := cells_le g (j := i) (by omega)
      have hdis : ∀ k, i ≤ k → k < i + f_X7_gapCells g i → ¬ (x ≤ k ∧ k < x + j) := fun k k1 k2 v => by
        rcases hio with w | w
        · rcases hs.2.2 with y | y
          · omega
          · have := cells_lt (g := g) (j := i) (e := s - 1) (by omega) (by omega) y
            omega
        · omega
      have hcc : f_X7_gapCells (h_X7_fill g x j mk) i = f_X7_gapCells g i := by
        have := cells_eq (g := h_X7_fill g x j mk) (k := i) (e := i + f_X7_gapCells g i) (by omega) hle (fun k k1 k2 => by rw [out k (hdis k k1 k2)]; exact cells_free g (by omega) k1 k2) (by
          rcases Nat.lt_or_ge (i + f_X7_gapCells g i) 80 with w | w
          · refine Or.inr fun v => ?_
            by_cases u : x ≤ i + f_X7_gapCells g i ∧ i + f_X7_gapCells g i < x + j
            · exact nin _ u.1 u.2 v
            · rw [out _ u] at v
              exact cells_max g (by omega) w v
          · exact Or.inl (by omega))
        omega
      rw [cnt, cnt, if_pos z, if_pos z', hcc]
    · have z' : ¬ isSt (h_X7_fill g x j mk) i := fun w => by
        apply z
        have hni : ¬ (x ≤ i ∧ i < x + j) := fun v => nin i v.1 v.2 w.2.1
        have w1 := w.2.1
        rw [out i hni] at w1
        refine ⟨hi, w1, ?_⟩
        rcases w.2.2 with y | y
        · exact Or.inl y
        · refine Or.inr fun v => ?_
          by_cases u : x ≤ i - 1 ∧ i - 1 < x + j
          · omega
          · rw [out _ u] at y
            exact y v
      rw [cnt, cnt, if_neg z, if_neg z']
  have hd := div_sum (j := j) (a := x - s) (b := s + f_X7_gapCells g s - (x + j)) (r := r) hj (by omega)
  rw [show x - s + j + (s + f_X7_gapCells g s - (x + j)) - r = f_X7_gapCells g s - r by omega, show x - s - r = x - s - r from rfl] at hd
  by_cases hy : x + j < 80
  · have n0 : ¬ isSt g (x + j) := fun z => by
      rcases z.2.2 with y | y
      · omega
      · exact y (fr (x + j - 1) (by omega) (by omega))
    have c2 : cnt g j r (x + j) = 0 := if_neg n0
    have c3 : cnt (h_X7_fill g x j mk) j r (x + j) = (s + f_X7_gapCells g s - (x + j) - r) / j := by
      by_cases hb : x + j < s + f_X7_gapCells g s
      · have st : isSt (h_X7_fill g x j mk) (x + j) := ⟨hy, by rw [out _ (by omega)]; exact fr _ (by omega) hb, Or.inr (nin (x + j - 1) (by omega) (by omega))⟩
        have hcc := cells_eq (g := h_X7_fill g x j mk) (k := x + j) (e := s + f_X7_gapCells g s) (by omega) hc80 (fun k k1 k2 => by rw [out k (by omega)]; exact fr k (by omega) k2) (by
          rcases Nat.lt_or_ge (s + f_X7_gapCells g s) 80 with w | w
          · refine Or.inr fun v => ?_
            rw [out _ (by omega)] at v
            exact cells_max g (by omega) w v
          · exact Or.inl (by omega))
        rw [cnt, if_pos st, hcc]
      · have e : x + j = s + f_X7_gapCells g s := by omega
        have ns : ¬ isSt (h_X7_fill g x j mk) (x + j) := fun z => by
          have z1 := z.2.1
          rw [out _ (by omega), e] at z1
          exact cells_max g (by omega) (by omega) z1
        rw [cnt, if_neg ns, show s + f_X7_gapCells g s - (x + j) - r = 0 by omega, Nat.zero_div]
    have s1 := sm_one (f := cnt g j r) (f' := fun i => if i = s then (x - s - r) / j else cnt g j r i) (x := s) 80 hs8 (fun i _ hn => if_neg hn)
    have s2 := sm_one (f := fun i => if i = s then (x - s - r) / j else cnt g j r i) (f' := cnt (h_X7_fill g x j mk) j r) (x := x + j) 80 hy (fun i hi hn => by
      by_cases e : i = s
      · rw [e, if_pos rfl, c1]
      · rw [if_neg e]; exact same i hi e hn)
    rw [if_pos rfl] at s1
    rw [if_neg (show ¬ x + j = s by omega), c2, c3] at s2
    omega
  · have s1 := sm_one (f := cnt g j r) (f' := cnt (h_X7_fill g x j mk) j r) (x := s) 80 hs8 (fun i hi hn => same i hi hn (by omega))
    rw [show s + f_X7_gapCells g s - (x + j) = 0 by omega, Nat.zero_sub, Nat.zero_div] at hd
    omega
theorem sm_drop {f : Nat → Nat} {x n : Nat} : ∀ d, x + d ≤ n → (∀ i, x ≤ i → i < x + d → f i = 1) → sm (fun i => if x ≤ i ∧ i < x + d then 0 else f i) n + d = sm f n := by
  intro d
  induction d with
  | zero =>
    intro _ _
    rw [Nat.add_zero]
    exact sm_cong n (fun i _ => if_neg (by omega))
  | succ d ih =>
    intro h1 h2
    have e := ih (by omega) (fun i i1 i2 => h2 i i1 (by omega))
    have s1 := sm_one (f := fun i => if x ≤ i ∧ i < x + d then 0 else f i) (f' := fun i => if x ≤ i ∧ i < x + (d + 1) then 0 else f i) (x := x + d) n (by omega) (fun i hi hn => by
      by_cases c : x ≤ i ∧ i < x + d
      · rw [if_pos c, if_pos (by omega)]
      · rw [if_neg c, if_neg (by omega)])
    rw [if_neg (show ¬ (x ≤ x + d ∧ x + d < x + d) by omega), if_pos (show x ≤ x + d ∧ x + d < x + (d + 1) by omega), h2 (x + d) (by omega) (by omega)] at s1
    omega
theorem fill_free {g : Rw} {x j : Nat} {mk : Int32} (hmk : mk ≠ -1) (hx : x + j ≤ 80) (hf : ∀ i, x ≤ i → i < x + j → g (7 + i) = -1) : sm (isC (h_X7_fill g x j mk) (-1)) 80 + j = sm (isC g (-1)) 80 := by
  have h := sm_drop (f := isC g (-1)) (x := x) (n := 80) j hx (fun i i1 i2 => if_pos (hf i i1 i2))
  have e : sm (isC (h_X7_fill g x j mk) (-1)) 80 = sm (fun i => if x ≤ i ∧ i < x + j then 0 else isC g (-1) i) 80 := sm_cong 80 (fun i _ => by
    show isC (h_X7_fill g x j mk) (-1) i = if x ≤ i ∧ i < x + j then 0 else isC g (-1) i
    rw [isC, fill_at g _ hx]
    by_cases z : x ≤ i ∧ i < x + j
    · rw [if_pos z, if_pos (show 7 + x ≤ 7 + i ∧ 7 + i < 7 + x + j by omega), if_neg hmk]
    · rw [if_neg z, if_neg (show ¬ (7 + x ≤ 7 + i ∧ 7 + i < 7 + x + j) by omega)]
      rfl)
  rw [e]
  exact h
theorem isC_cong {g g' : Rw} (h : SameC g g') (m : Int32) : sm (isC g' m) 80 = sm (isC g m) 80 := sm_cong 80 (fun i hi => by rw [isC, isC, h (7 + i) (by omega) (by omega)])
theorem nf_cong {g g' : Rw} (h : SameC g g') (h3 : g' 3 = g 3) (j : Nat) : nf g' j = nf g j := by
  rw [nf, nf, show cO g' = cO g by rw [cO, h3, cO]]
  refine sm_cong 80 (fun i hi => ?_)
  rw [cnt, cnt, cells_cong h (by omega)]
  by_cases z : isSt g i
  · rw [if_pos z, if_pos ((isSt_cong h i).mpr z)]
  · rw [if_neg z, if_neg (fun w => z ((isSt_cong h i).mp w))]
/-- what holds of a row behind a car that came -/
theorem come_facts {g : Rw} (h : Inv g) (h40 : gm g < 40) {j t : Nat} (hj : 2 ≤ j ∧ j ≤ 8) : gm (h_X7_comeOn g (nI j) (nI t)).2 = gm g + 1 ∧ f_X7_of (h_X7_comeOn g (nI j) (nI t)).2 (gm g) 3 = (h_X7_placeFor g (nI j)).1 ∧ nwT (h_X7_comeOn g (nI j) (nI t)).2 (gm g) = (if (h_X7_placeFor g (nI j)).1 = -1 then 1 else 0) ∧ sm (isC (h_X7_comeOn g (nI j) (nI t)).2 (-1)) 80 + (if (h_X7_placeFor g (nI j)).1 = -1 then 0 else j) = sm (isC g (-1)) 80 ∧ nf (h_X7_comeOn g (nI j) (nI t)).2 j + (if (h_X7_placeFor g (nI j)).1 = -1 then 0 else 1) ≤ nf g j := by
  obtain ⟨e0, hm⟩ := h.ri.m
  have hn := RI_new h.ri h40 (len := nI j) ⟨j, hj.1, hj.2, rfl⟩ (stay := nI t)
  have lo : ∀ i, 1 ≤ i → i < 87 → upd (cw6 g (gm g) (nI j) (nI t)) 0 ((cw6 g (gm g) (nI j) (nI t)) 0 + 1) i = g i := fun i h1 h2 => (pk_un (by omega)).trans (cw6_lo _ _ _ _ h2)
  have w0 : f_X7_of (upd (cw6 g (gm g) (nI j) (nI t)) 0 ((cw6 g (gm g) (nI j) (nI t)) 0 + 1)) (gm g) 0 = nI j := by
    rw [of_upd _ _ (by omega)]
    unfold cw6
    rw [of_lay_ne _ _ (by omega) (by omega) (Or.inr (by omega)), of_lay_ne _ _ (by omega) (by omega) (Or.inr (by omega)), of_lay_ne _ _ (by omega) (by omega) (Or.inr (by omega)), of_lay_ne _ _ (by omega) (by omega) (Or.inr (by omega)), of_lay_ne _ _ (by omega) (by omega) (Or.inr (by omega)), of_lay_eq]
  have w2 : f_X7_of (upd (cw6 g (gm g) (nI j) (nI t)) 0 ((cw6 g (gm g) (nI j) (nI t)) 0 + 1)) (gm g) 2 = 1 := by rw [of_upd _ _ (by omega), cw6_2]
  have w3 : f_X7_of (upd (cw6 g (gm g) (nI j) (nI t)) 0 ((cw6 g (gm g) (nI j) (nI t)) 0 + 1)) (gm g) 3 = -1 := by
    rw [of_upd _ _ (by omega)]
    unfold cw6
    rw [of_lay_ne _ _ (by omega) (by omega) (Or.inr (by omega)), of_lay_ne _ _ (by omega) (by omega) (Or.inr (by omega)), of_lay_eq]
  have eC : (h_X7_comeOn g (nI j) (nI t)).2 = (h_X7_parks (upd (cw6 g (gm g) (nI j) (nI t)) 0 ((cw6 g (gm g) (nI j) (nI t)) 0 + 1)) (gm g)).2 := rfl
  rw [eC]
  generalize upd (cw6 g (gm g) (nI j) (nI t)) 0 ((cw6 g (gm g) (nI j) (nI t)) 0 + 1) = G at hn lo w0 w2 w3 ⊢
  have pjG : pj G (gm g) = j := by rw [pj, w0, nI_clamp (by omega)]
  have eP : (h_X7_placeFor G (nI j)).1 = (h_X7_placeFor g (nI j)).1 := place_cong (fun i h1 h2 => lo i (by omega) h2) (fun i h1 h2 => lo i (by omega) (by omega)) _
  have pg : ∀ i, i ≠ 5 → i ≠ 6 → (h_X7_placeFor G (nI j)).2 i = G i := fun i h5 h6 => place_g _ _ h5 h6
  have pf : ∀ c w, f_X7_of (h_X7_placeFor G (nI j)).2 c w = f_X7_of G c w := fun c w => of_place _ _ _ _
  rw [h_X7_parks, pjG, eP]
  generalize (h_X7_placeFor G (nI j)).2 = P2 at pg pf ⊢
  rcases place_gap h hj with z | ⟨s, x, hs, ex, hsx, hxj, hcc⟩
  · rw [if_pos z, if_pos z, if_pos z, if_pos z, if_pos z]
    have sc : SameC g P2 := fun i h1 h2 => (pg i (by omega) (by omega)).trans (lo i (by omega) h2)
    refine ⟨(gm_cong (pg 0 (by omega) (by omega))).trans hn.2, ?_, ?_, ?_, ?_⟩
    · show f_X7_of P2 (gm g) 3 = _
      rw [pf, w3, z]
    · show nwT P2 (gm g) = 1
      rw [nwT, pf, w2]
      rfl
    · show sm (isC P2 (-1)) 80 + 0 = _
      rw [isC_cong sc, Nat.add_zero]
    · show nf P2 j + 0 ≤ _
      rw [nf_cong sc ((pg 3 (by omega) (by omega)).trans (lo 3 (by omega) (by omega)))]
      omega
  · have hs8 := hs.1
    have h80 := cells_le g (j := s) (by omega)
    have nz : ¬ (h_X7_placeFor g (nI j)).1 = -1 := by rw [ex]; exact nI_m1 (by omega)
    rw [if_neg nz, if_neg nz, if_neg nz, if_neg nz, if_neg nz, ex, nI_clamp (by omega)]
    have lo2 : ∀ i, i < 87 → h_X7_lay (h_X7_lay (h_X7_fill P2 x j (nI (gm g))) (gm g) 3 (nI x)) (gm g) 2 0 i = h_X7_fill P2 x j (nI (gm g)) i := fun i hi => (lay_lo _ _ hi).trans (lay_lo _ _ hi)
    have sc : SameC (h_X7_fill g x j (nI (gm g))) (h_X7_lay (h_X7_lay (h_X7_fill P2 x j (nI (gm g))) (gm g) 3 (nI x)) (gm g) 2 0) := fun i h1 h2 => by
      rw [lo2 i h2, fill_at _ _ (by omega), fill_at _ _ (by omega), pg i (by omega) (by omega), lo i (by omega) h2]
    have mk1 : nI (gm g) ≠ -1 := nI_m1 (by omega)
    refine ⟨?_, ?_, ?_, ?_, ?_⟩
    · refine Eq.trans (gm_cong ?_) hn.2
      show h_X7_lay (h_X7_lay (h_X7_fill P2 x j (nI (gm g))) (gm g) 3 (nI x)) (gm g) 2 0 0 = G 0
      rw [lo2 0 (by omega), fill_lo _ _ _ _ (by omega), pg 0 (by omega) (by omega)]
    · show f_X7_of (h_X7_lay (h_X7_lay (h_X7_fill P2 x j (nI (gm g))) (gm g) 3 (nI x)) (gm g) 2 0) (gm g) 3 = _
      rw [of_lay_ne _ _ (by omega) (by omega) (Or.inr (by omega)), of_lay_eq]
    · show nwT (h_X7_lay (h_X7_lay (h_X7_fill P2 x j (nI (gm g))) (gm g) 3 (nI x)) (gm g) 2 0) (gm g) = 0
      rw [nwT, of_lay_eq]
      rfl
    · show sm (isC (h_X7_lay (h_X7_lay (h_X7_fill P2 x j (nI (gm g))) (gm g) 3 (nI x)) (gm g) 2 0) (-1)) 80 + j = _
      rw [isC_cong sc]
      exact fill_free mk1 (by omega) (fun i i1 i2 => cells_free g (j := s) (by omega) (by omega) (by omega))
    · show nf (h_X7_lay (h_X7_lay (h_X7_fill P2 x j (nI (gm g))) (gm g) 3 (nI x)) (gm g) 2 0) j + 1 ≤ _
      have e3 : h_X7_fill g x j (nI (gm g)) 3 = g 3 := fill_lo _ _ _ _ (by omega)
      rw [nf_cong sc (by rw [lo2 3 (by omega), fill_lo _ _ _ _ (by omega), pg 3 (by omega) (by omega), lo 3 (by omega) (by omega), e3])]
      rw [nf, nf, show cO (h_X7_fill g x j (nI (gm g))) = cO g by rw [cO, e3, cO]]
      exact cnt_fill2 hj mk1 hs hsx hxj hcc
