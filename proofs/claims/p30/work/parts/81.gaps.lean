/-! the gaps in their order -/
def gst (g : Rw) : Nat → Nat
  | 0 => f_X7_gapFrom g 0
  | k + 1 => f_X7_nextGap g (gst g k)
theorem next_80 (g : Rw) : f_X7_nextGap g 80 = 80 := by
  have h1 := cells_le g (j := 80) (by omega)
  have h2 := from_le g (j := 80) (by omega)
  rw [f_X7_nextGap, show 80 + f_X7_gapCells g 80 = 80 by omega]
  omega
theorem gst_le (g : Rw) : ∀ k, gst g k ≤ 80 ∧ (gst g k = 80 ∨ isSt g (gst g k)) := by
  intro k
  induction k with
  | zero => exact first_up
  | succ k ih =>
    rw [gst]
    rcases ih.2 with e | e
    · rw [e, next_80]
      exact ⟨Nat.le_refl _, Or.inl rfl⟩
    · exact ⟨(next_up e).2.1, (next_up e).2.2⟩
theorem gst_is {g : Rw} {k : Nat} (h : gst g k < 80) : isSt g (gst g k) := by
  rcases (gst_le g k).2 with e | e
  · omega
  · exact e
theorem gst_up {g : Rw} {k : Nat} (h : gst g k < 80) : gst g k < gst g (k + 1) := (next_up (gst_is h)).1
theorem gst_stay {g : Rw} {i : Nat} (h : gst g i = 80) : ∀ d, gst g (i + d) = 80 := by
  intro d
  induction d with
  | zero => exact h
  | succ d ih =>
    show f_X7_nextGap g (gst g (i + d)) = 80
    rw [ih, next_80]
theorem gaps_lp (g : Rw) : ∀ n i, 80 < gst g i + n → (∀ k, k < i → gst g k < 80) → gst g (lp_rGaps g n i (gst g i)) = 80 ∧ ∀ k, k < lp_rGaps g n i (gst g i) → gst g k < 80 := by
  intro n
  induction n with
  | zero =>
    intro i h1 h2
    have := (gst_le g i).1
    omega
  | succ n ih =>
    intro i h1 h2
    have hl := (gst_le g i).1
    rw [lp_rGaps]
    by_cases c1 : (80 : Int32) ≤ nI (gst g i)
    · have := (k80 hl).mp c1
      rw [if_pos c1]
      exact ⟨by omega, h2⟩
    · have hk : gst g i < 80 := kN (B := 80) c1 (by omega) (by omega)
      have hu := gst_up hk
      rw [if_neg c1]
      exact ih (i + 1) (by omega) (fun k hk2 => by
        by_cases e : k = i
        · rw [e]; exact hk
        · exact h2 k (by omega))
theorem gaps_N (g : Rw) : gst g (f_X7_gaps g) = 80 ∧ ∀ k, k < f_X7_gaps g → gst g k < 80 := by
  have hl := (gst_le g 0).1
  exact gaps_lp g 81 0 (by omega) (fun k hk => by omega)
theorem gst_ge {g : Rw} : ∀ k, k ≤ f_X7_gaps g → k ≤ gst g k := by
  intro k
  induction k with
  | zero => intro _; exact Nat.zero_le _
  | succ k ih =>
    intro h
    have h1 := ih (by omega)
    have h2 := gst_up ((gaps_N g).2 k (by omega))
    omega
theorem gaps_le (g : Rw) : f_X7_gaps g ≤ 80 := by
  have h1 := gst_ge (g := g) (f_X7_gaps g) (Nat.le_refl _)
  have h2 := (gaps_N g).1
  omega
theorem gapOf_lp2 (g : Rw) {k : Nat} (hk : k < 2 ^ 31) : ∀ n i, i ≤ k → 80 < gst g i + n → lp_rGapOf g (nI k) n i (gst g i) = gst g k := by
  intro n
  induction n with
  | zero =>
    intro i h1 h2
    have := (gst_le g i).1
    omega
  | succ n ih =>
    intro i h1 h2
    have hl := (gst_le g i).1
    rw [lp_rGapOf]
    by_cases c0 : nI k ≤ nI i
    · have := (nI_leI (by omega) (by omega)).mp c0
      rw [if_pos c0, show i = k by omega]
    · have hik : i < k := by
        rcases Nat.lt_or_ge i k with z | z
        · exact z
        · exact absurd (nI_le z (by omega)) c0
      rw [if_neg c0]
      by_cases c1 : (80 : Int32) ≤ nI (gst g i)
      · have h80 := (k80 hl).mp c1
        have h3 := gst_stay (g := g) (i := i) (by omega) (k - i)
        rw [if_pos c1]
        rw [show i + (k - i) = k by omega] at h3
        omega
      · have hlt : gst g i < 80 := kN (B := 80) c1 (by omega) (by omega)
        have hu := gst_up hlt
        rw [if_neg c1]
        exact ih (i + 1) (by omega) (by omega)
theorem gapOf_gst (g : Rw) {k : Nat} (hk : k < 2 ^ 31) : f_X7_gapOf g (nI k) = gst g k := by
  have hl := (gst_le g 0).1
  exact gapOf_lp2 g hk 81 0 (Nat.zero_le _) (by omega)
/-- cells of the gap of the number k -/
def gcl (g : Rw) (k : Nat) : Nat := f_X7_gapCells g (gst g k)
theorem gcl_at {g : Rw} {k : Nat} (hk : k < f_X7_gaps g) : 1 ≤ gcl g k ∧ gst g k + gcl g k ≤ 80 := by
  have h1 := (gaps_N g).2 k hk
  exact ⟨cells_pos g h1 (gst_is h1).2.1, cells_le g (by omega)⟩
theorem rd_gap0 {X : Cx} {M : Mo} (h : RelX X M) {k : Nat} (hk : k < f_X7_gaps (mN M)) : pv (h_X6_gap X (nI k) 0) X = (nI (gst (mN M) k), X) := by
  have h1 := (gaps_N (mN M)).2 k hk
  have h2 := gaps_le (mN M)
  have e : f_X4_gapStart (xN X) (nI k) = nI (gst (mN M) k) := by
    rw [gapStart_eq (by omega) h.nw.1.2.2.2, gapOf_gst _ (by omega), if_neg (by omega)]
  rw [h_X6_gap, e, if_neg (nI_m1 (by omega)), if_neg (by decide), if_pos rfl]
  rfl
theorem rd_gap1 {X : Cx} {M : Mo} (h : RelX X M) {k : Nat} (hk : k < f_X7_gaps (mN M)) : pv (h_X6_gap X (nI k) 1) X = (nI (gcl (mN M) k), X) := by
  have h1 := (gaps_N (mN M)).2 k hk
  have h2 := gaps_le (mN M)
  have e : f_X4_gapStart (xN X) (nI k) = nI (gst (mN M) k) := by
    rw [gapStart_eq (by omega) h.nw.1.2.2.2, gapOf_gst _ (by omega), if_neg (by omega)]
  rw [h_X6_gap, e, if_neg (nI_m1 (by omega)), if_neg (by decide), if_neg (by decide), get_n _ h1 (by omega), (h.nw.1.2.2.2.at (gst_is h1)).1]
  rfl
theorem sm_ones {f : Nat → Nat} {a : Nat} : ∀ d, (∀ i, a ≤ i → i < a + d → f i = 1) → sm f (a + d) = sm f a + d := by
  intro d
  induction d with
  | zero => intro _; rfl
  | succ d ih =>
    intro h
    have e : sm f (a + (d + 1)) = sm f (a + d) + f (a + d) := rfl
    rw [e, ih (fun i h1 h2 => h i h1 (by omega)), h (a + d) (by omega) (by omega)]
    omega
theorem sm_gst {g : Rw} : ∀ k, k ≤ f_X7_gaps g → sm (isC g (-1)) (gst g k) = sm (gcl g) k := by
  intro k
  induction k with
  | zero =>
    intro _
    have h := sm_skip (f := isC g (-1)) (a := 0) (gst g 0) (fun i _ h2 => if_neg (from_nf g (j := 0) (by omega) (Nat.zero_le _) (by rw [Nat.zero_add] at h2; exact h2)))
    rw [Nat.zero_add] at h
    exact h
  | succ k ih =>
    intro hk
    have h1 := (gaps_N g).2 k (by omega)
    have hc := (gcl_at (g := g) (k := k) (by omega)).2
    have hf := from_le g (j := gst g k + gcl g k) hc
    have e1 := sm_ones (f := isC g (-1)) (a := gst g k) (gcl g k) (fun i i1 i2 => if_pos (cells_free g (by omega) i1 i2))
    have e2 : gst g (k + 1) = (gst g k + gcl g k) + (gst g (k + 1) - (gst g k + gcl g k)) := by
      have : gst g (k + 1) = f_X7_gapFrom g (gst g k + gcl g k) := rfl
      omega
    have e3 := sm_skip (f := isC g (-1)) (a := gst g k + gcl g k) (gst g (k + 1) - (gst g k + gcl g k)) (fun i i1 i2 => if_neg (from_nf g hc i1 (by
      rw [← e2] at i2
      exact i2)))
    rw [← e2] at e3
    have e4 : sm (gcl g) (k + 1) = sm (gcl g) k + gcl g k := rfl
    rw [e3, e1, ih (by omega), e4]
theorem free_gst (g : Rw) : sm (isC g (-1)) 80 = sm (gcl g) (f_X7_gaps g) := by
  have := sm_gst (g := g) _ (Nat.le_refl _)
  rwa [(gaps_N g).1] at this
/-- the longest of the first gaps -/
def gmx (g : Rw) : Nat → Nat
  | 0 => 0
  | k + 1 => if gmx g k < gcl g k then gcl g k else gmx g k
theorem gmx_le (g : Rw) : ∀ k, k ≤ f_X7_gaps g → gmx g k ≤ 80 := by
  intro k
  induction k with
  | zero => intro _; exact Nat.zero_le _
  | succ k ih =>
    intro h
    have h1 := (gcl_at (g := g) (k := k) (by omega)).2
    have h2 := ih (by omega)
    rw [gmx]
    split <;> omega
theorem longest_gmx (g : Rw) : f_X7_longest g = gmx g (f_X7_gaps g) := by
  have hl := (gst_le g 0).1
  suffices ∀ n i, i ≤ f_X7_gaps g → 80 < gst g i + n → lp_rLongest g n (gmx g i) (gst g i) = gmx g (f_X7_gaps g) from this 81 0 (Nat.zero_le _) (by omega)
  intro n
  induction n with
  | zero =>
    intro i h1 h2
    have := (gst_le g i).1
    omega
  | succ n ih =>
    intro i h1 h2
    have hi := (gst_le g i).1
    have hg := gmx_le g i h1
    rw [lp_rLongest]
    by_cases c1 : (80 : Int32) ≤ nI (gst g i)
    · have h80 := (k80 hi).mp c1
      rw [if_pos c1]
      rcases Nat.lt_or_ge i (f_X7_gaps g) with z | z
      · have := (gaps_N g).2 i z
        omega
      · rw [show i = f_X7_gaps g by omega]
    · have hlt : gst g i < 80 := kN (B := 80) c1 (by omega) (by omega)
      have hi2 : i < f_X7_gaps g := by
        rcases Nat.lt_or_ge i (f_X7_gaps g) with z | z
        · exact z
        · have := (gaps_N g).1
          rw [show i = f_X7_gaps g by omega] at hlt
          omega
      have hu := gst_up hlt
      have hc := (gcl_at hi2).2
      have e := ih (i + 1) hi2 (by omega)
      have hm : gmx g (i + 1) = if gmx g i < gcl g i then gcl g i else gmx g i := rfl
      rw [if_neg c1]
      by_cases c2 : nI (f_X7_gapCells g (gst g i)) ≤ nI (gmx g i)
      · have c3 : gcl g i ≤ gmx g i := (nI_leI (a := gcl g i) (by omega) (by omega)).mp c2
        rw [hm, if_neg (by omega)] at e
        rw [if_pos c2]
        exact e
      · have c3 : gmx g i < gcl g i := by
          rcases Nat.lt_or_ge (gmx g i) (gcl g i) with z | z
          · exact z
          · exact absurd (nI_le (a := gcl g i) z (by omega)) c2
        rw [hm, if_pos c3] at e
        rw [if_neg c2]
        exact e
/-- where the gap ahead of that of the number k ends -/
def gend (g : Rw) : Nat → Int32
  | 0 => -1
  | k + 1 => nI (gst g k + gcl g k)
theorem gend_lt {g : Rw} {k : Nat} (hk : k < f_X7_gaps g) : gend g k < nI (gst g k) := by
  have h1 := (gaps_N g).2 k hk
  cases k with
  | zero =>
    show (-1 : Int32) < nI (gst g 0)
    rw [Int32.lt_iff_toInt_lt, nI_toInt (by omega), show (-1 : Int32).toInt = -1 by decide]
    omega
  | succ k =>
    have h2 := (gcl_at (g := g) (k := k) (by omega)).2
    have h3 := from_le g (j := gst g k + gcl g k) h2
    have h4 : gst g (k + 1) = f_X7_gapFrom g (gst g k + gcl g k) := rfl
    have h5 : gst g k + gcl g k ≠ gst g (k + 1) := fun z => by
      have h6 := cells_max g (j := gst g k) (by omega) (show gst g k + f_X7_gapCells g (gst g k) < 80 by
        have : gcl g k = f_X7_gapCells g (gst g k) := rfl
        omega)
      have h7 := (gst_is h1).2.1
      rw [← z] at h7
      exact h6 h7
    exact nI_lt (by omega) (by omega)
theorem gap_low {g : Rw} {k : Nat} (hk : k < f_X7_gaps g) (h0 : 0 < gst g k) : ¬ g (7 + (gst g k - 1)) = -1 := by
  rcases (gst_is ((gaps_N g).2 k hk)).2.2 with z | z
  · omega
  · exact z
theorem gap_high {g : Rw} {k : Nat} (hk : k < f_X7_gaps g) (h0 : gst g k + gcl g k < 80) : ¬ g (7 + (gst g k + gcl g k)) = -1 := cells_max g (by have := (gaps_N g).2 k hk; omega) h0
theorem gap_free {g : Rw} {k i : Nat} (hk : k < f_X7_gaps g) (h1 : gst g k ≤ i) (h2 : i < gst g k + gcl g k) : g (7 + i) = -1 := cells_free g (by have := (gaps_N g).2 k hk; omega) h1 h2
/-! where a car parks -/
theorem tot_0 {g : Rw} {j r : Nat} (hj : 1 ≤ j) : ∀ n k, k ≤ 80 → (k = 80 ∨ isSt g k) → 80 < k + n → (tot g j r n k = 0 ↔ ∀ i, k ≤ i → isSt g i → f_X7_gapCells g i < j + r) := by
  intro n
  induction n with
  | zero => intro k h1 h2 h3; omega
  | succ n ih =>
    intro k h1 h2 h3
    rw [tot]
    rcases h2 with rfl | hs
    · rw [if_pos (by omega)]
      exact ⟨fun _ i hi hs => by have := hs.1; omega, fun _ => rfl⟩
    · obtain ⟨u1, u2, u3⟩ := next_up hs
      have e := ih _ u2 u3 (by omega)
      rw [if_neg (by have := hs.1; omega)]
      constructor
      · intro z i hi hs2
        by_cases c : f_X7_gapCells g k < j + r
        · rw [if_pos c] at z
          by_cases ek : i = k
          · rw [ek]; exact c
          · rcases Nat.lt_or_ge i (f_X7_nextGap g k) with w | w
            · exact absurd hs2 (nst_next hs (by omega) w)
            · exact e.mp (by omega) i w hs2
        · rw [if_neg c] at z
          omega
      · intro z
        rw [if_pos (z k (Nat.le_refl _) hs), e.mpr (fun i hi hs2 => z i (by omega) hs2)]
theorem chance_no {g : Rw} {j r : Nat} (hj : 1 ≤ j ∧ j ≤ 8) (hr : r ≤ 4) (h3 : g 3 = nI r) : (h_X7_byChance g (nI j)).1 = -1 ↔ tot g j r 81 (f_X7_gapFrom g 0) = 0 := by
  have hf := from_le g (j := 0) (by omega)
  have e := rAll_end hj hr h3 81 0 (f_X7_gapFrom g 0) (by omega) hf.2 (by omega)
  rw [Nat.zero_add] at e
  have ht := tot_le g r hj.1 81 _ hf.2
  rw [h_X7_byChance, show (0 : Int32) = nI 0 from rfl, e]
  by_cases c : nI (tot g j r 81 (f_X7_gapFrom g 0)) = 0
  · rw [if_pos c]
    exact ⟨fun _ => nI_inj (b := 0) (by omega) (by omega) c, fun _ => rfl⟩
  · have t0 : 0 < tot g j r 81 (f_X7_gapFrom g 0) := Nat.pos_of_ne_zero fun z => c (by rw [z]; rfl)
    obtain ⟨i, hi, e2⟩ := ush_n (f_X7_chance g * 6364136223846793005 + 1442695040888963407)
    rw [if_neg c, e2, pk_rem hi t0 (by omega)]
    have hc : SameC g (h_X7_layChance g (f_X7_chance g * 6364136223846793005 + 1442695040888963407)) := fun i h1 _ => lay_3 g _ (by omega) (by omega)
    refine ⟨fun z => absurd z ?_, fun z => by omega⟩
    refine rPick_ne hj hr ((lay_3 g _ (by omega) (by omega)).trans h3) _ _ _ ?_ (from_le _ (by omega)).2 (Nat.lt_of_lt_of_le (Nat.mod_lt _ t0) (by omega))
    rw [tot_cong hc j r 81 _ (from_le _ (by omega)).2, from_cong hc (by omega)]
    exact Nat.mod_lt _ t0
theorem rule_no {g : Rw} {j r : Nat} (hj : j ≤ 8) (hr : r ≤ 4) (h3 : g 3 = nI r) : ∀ n best k, k ≤ 80 → (k = 80 ∨ isSt g k) → 80 < k + n → (lp_rRule g (nI j) n best k = -1 ↔ best = -1 ∧ ∀ i, k ≤ i → isSt g i → f_X7_gapCells g i < j + r) := by
  intro n
  induction n with
  | zero => intro best k h1 h2 h3; omega
  | succ n ih =>
    intro best k hk hs hn
    rw [lp_rRule]
    rcases hs with rfl | hs
    · rw [if_pos p80]
      exact ⟨fun z => ⟨z, fun i hi hs => by have := hs.1; omega⟩, fun z => z.1⟩
    · obtain ⟨u1, u2, u3⟩ := next_up hs
      have hc := cells_le g (j := k) (by have := hs.1; omega)
      have k1 := hs.1
      have nk : ¬ nI k = -1 := nI_m1 (by omega)
      have i1 := ih best _ u2 u3 (by omega)
      have i2 := ih (nI k) _ u2 u3 (by omega)
      have big : ¬ f_X7_gapCells g k < j + r → ¬ (best = -1 ∧ ∀ i, k ≤ i → isSt g i → f_X7_gapCells g i < j + r) := fun c z => c (z.2 k (Nat.le_refl _) hs)
      have sml : f_X7_gapCells g k < j + r → ((best = -1 ∧ ∀ i, f_X7_nextGap g k ≤ i → isSt g i → f_X7_gapCells g i < j + r) ↔ (best = -1 ∧ ∀ i, k ≤ i → isSt g i → f_X7_gapCells g i < j + r)) := fun c => by
        refine ⟨fun z => ⟨z.1, fun i hi hs2 => ?_⟩, fun z => ⟨z.1, fun i hi hs2 => z.2 i (by omega) hs2⟩⟩
        by_cases ek : i = k
        · rw [ek]; exact c
        · rcases Nat.lt_or_ge i (f_X7_nextGap g k) with w | w
          · exact absurd hs2 (nst_next hs (by omega) w)
          · exact z.2 i w hs2
      rw [if_neg (s80 k1), h3, nI_add]
      by_cases c : nI (f_X7_gapCells g k) < nI (j + r)
      · have c' := (nI_ltI (by omega) (by omega)).mp c
        rw [if_pos c, if_pos rfl, i1]
        exact sml c'
      · have c' : ¬ f_X7_gapCells g k < j + r := fun z => c (nI_lt z (by omega))
        have no1 : best ≠ -1 → ¬ lp_rRule g (nI j) n best (f_X7_nextGap g k) = -1 := fun hb z => hb (i1.mp z).1
        have no2 : ¬ lp_rRule g (nI j) n (nI k) (f_X7_nextGap g k) = -1 := fun z => nk (i2.mp z).1
        rw [if_neg c, if_neg (show ¬ (1 : Int32) = 0 by decide)]
        by_cases c2 : best = -1
        · rw [if_pos c2]
          exact ⟨fun z => absurd z no2, fun z => absurd z (big c')⟩
        · rw [if_neg c2]
          by_cases c3 : g 2 = 1
          · rw [if_pos c3]
            by_cases c4 : nI (f_X7_gapCells g best.toNatClampNeg) ≤ nI (f_X7_gapCells g k)
            · rw [if_pos c4]
              exact ⟨fun z => absurd z (no1 c2), fun z => absurd z (big c')⟩
            · rw [if_neg c4]
              exact ⟨fun z => absurd z no2, fun z => absurd z (big c')⟩
          · rw [if_neg c3]
            exact ⟨fun z => absurd z (no1 c2), fun z => absurd z (big c')⟩
theorem longest_all {g : Rw} {n : Nat} (hn : 1 ≤ n) : f_X7_longest g < n ↔ ∀ i, f_X7_gapFrom g 0 ≤ i → isSt g i → f_X7_gapCells g i < n := by
  have fu := first_up (g := g)
  obtain ⟨-, b, d⟩ := longest_lp g 81 0 _ fu.1 fu.2 (by omega) (by omega)
  have e : lp_rLongest g 81 0 (f_X7_gapFrom g 0) = f_X7_longest g := rfl
  constructor
  · intro h i hi hs
    have := b i hi hs
    omega
  · intro h
    rcases d with d | ⟨i, hs, e2⟩
    · omega
    · have h1 : f_X7_gapFrom g 0 ≤ i := by
        rcases Nat.lt_or_ge i (f_X7_gapFrom g 0) with y | y
        · exact absurd hs (nst_first y)
        · exact y
      have := h i h1 hs
      omega
theorem wy_0 {g : Rw} {j : Nat} (hj : 2 ≤ j) : wy g j = 0 ↔ j + cO g ≤ f_X7_longest g := by
  rw [wy]
  by_cases c1 : f_X7_longest g < j
  · rw [if_pos c1]
    omega
  · rw [if_neg c1]
    by_cases c2 : f_X7_longest g < j + cO g
    · rw [if_pos c2]
      omega
    · rw [if_neg c2]
      omega
theorem wy_le (g : Rw) (j : Nat) : wy g j ≤ 2 := by
  rw [wy]
  split
  · omega
  · split <;> omega
theorem place_no {g : Rw} (h : Inv g) {j : Nat} (hj : 2 ≤ j ∧ j ≤ 8) : (h_X7_placeFor g (nI j)).1 = -1 ↔ ¬ wy g j = 0 := by
  obtain ⟨⟨e3, l3⟩, -, -⟩ := h.num
  have fu := first_up (g := g)
  rw [wy_0 hj.1, Nat.not_le, longest_all (by omega), h_X7_placeFor]
  by_cases c : g 2 = 2
  · rw [if_pos c]
    show (h_X7_byChance g (nI j)).1 = -1 ↔ _
    rw [chance_no ⟨by omega, hj.2⟩ l3 e3, tot_0 (by omega) 81 _ fu.1 fu.2 (by omega)]
  · rw [if_neg c]
    show f_X7_byRule g (nI j) = -1 ↔ _
    rw [f_X7_byRule, rule_no hj.2 l3 e3 81 _ _ fu.1 fu.2 (by omega)]
    exact ⟨fun z => z.2, fun z => ⟨rfl, z⟩⟩
theorem place_at {g : Rw} (h : Inv g) {j : Nat} (hj : 2 ≤ j ∧ j ≤ 8) (hw : wy g j = 0) : ∃ x, (h_X7_placeFor g (nI j)).1 = nI x ∧ x + j ≤ 80 ∧ ∀ i, x ≤ i → i < x + j → g (7 + i) = -1 := by
  obtain ⟨⟨e3, l3⟩, -, -⟩ := h.num
  rcases place_fr (g := g) hj.2 ⟨_, l3, e3⟩ with z | z
  · exact absurd hw ((place_no h hj).mp z)
  · exact z
theorem nf_0 {g : Rw} {j : Nat} (hj : 2 ≤ j ∧ j ≤ 8) : 0 < nf g j ↔ wy g j = 0 := by
  have hpos : ∀ (f : Nat → Nat) n, 0 < sm f n ↔ ∃ i, i < n ∧ 0 < f i := by
    intro f n
    induction n with
    | zero => exact ⟨fun z => absurd z (Nat.lt_irrefl 0), fun ⟨i, hi, _⟩ => by omega⟩
    | succ n ih =>
      have e : sm f (n + 1) = sm f n + f n := rfl
      rw [e]
      constructor
      · intro z
        rcases Nat.eq_zero_or_pos (f n) with w | w
        · obtain ⟨i, hi, hf⟩ := ih.mp (by omega)
          exact ⟨i, by omega, hf⟩
        · exact ⟨n, by omega, w⟩
      · rintro ⟨i, hi, hf⟩
        by_cases c : i = n
        · rw [c] at hf; omega
        · have := ih.mpr ⟨i, by omega, hf⟩
          omega
  rw [nf, hpos, wy_0 hj.1]
  have hall := longest_all (g := g) (n := j + cO g) (by omega)
  constructor
  · rintro ⟨i, hi, hf⟩
    rcases Nat.lt_or_ge (f_X7_longest g) (j + cO g) with z | z
    · rw [cnt] at hf
      by_cases hs : isSt g i
      · rw [if_pos hs] at hf
        have h1 : f_X7_gapFrom g 0 ≤ i := by
          rcases Nat.lt_or_ge i (f_X7_gapFrom g 0) with y | y
          · exact absurd hs (nst_first y)
          · exact y
        have h2 := hall.mp z i h1 hs
        rw [Nat.div_eq_of_lt (by omega)] at hf
        omega
      · rw [if_neg hs] at hf
        omega
    · exact z
  · intro z
    have fu := first_up (g := g)
    obtain ⟨-, -, d⟩ := longest_lp g 81 0 _ fu.1 fu.2 (by omega) (by omega)
    have e : lp_rLongest g 81 0 (f_X7_gapFrom g 0) = f_X7_longest g := rfl
    rcases d with d | ⟨i, hs, e2⟩
    · omega
    · refine ⟨i, hs.1, ?_⟩
      rw [cnt, if_pos hs]
      exact Nat.div_pos (by omega) (by omega)
