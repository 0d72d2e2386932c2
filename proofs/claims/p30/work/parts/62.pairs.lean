theorem down1 {k : Nat} (h : k < 80) : 81 - k = (81 - (k + 1)) + 1 := by omega
theorem longest_eq {S : St} {g : Rw} (hg : GapOk S g) : ∀ (n most k : Nat), k ≤ 80 → (k = 80 ∨ isSt g k) → 80 < k + n → most ≤ 80 → lp_longest S (81 - k) k (nI most) = nI (lp_rLongest g n most k) := by
  intro n
  induction n with
  | zero => intro most k hk _ hn; omega
  | succ n ih =>
    intro most k hk hs hn hm
    rcases hs with rfl | hs
    · rw [show 81 - 80 = 0 + 1 from rfl, lp_longest, if_pos p80, lp_rLongest, if_pos p80]
    · obtain ⟨a1, a2, a3⟩ := hg.at hs
      obtain ⟨u1, u2, u3⟩ := next_up hs
      rw [down1 hs.1, lp_longest, if_neg (s80 hs.1), a1, lp_rLongest, if_neg (s80 hs.1)]
      by_cases c : nI (f_X7_gapCells g k) ≤ nI most
      · rw [if_pos c, if_pos c, to_longest (nI_pos' (by omega)) u1 u2 (hg.zn hs)]
        exact ih _ _ u2 u3 (by omega) hm
      · rw [if_neg c, if_neg c, to_longest (nI_pos' (by omega)) u1 u2 (hg.zn hs)]
        exact ih _ _ u2 u3 (by omega) (by omega)
theorem longestGap_eq {S : St} {g : Rw} (hg : GapOk S g) : f_X4_longestGap S = nI (f_X7_longest g) := by
  have h := first_up (g := g)
  rw [f_X4_longestGap, f_X7_longest, show (80 + 1 : Nat) = 81 - 0 from rfl, show (0 : Int32) = nI 0 from rfl, to_longest (by decide) (Nat.zero_le _) h.1 hg.z1]
  exact longest_eq hg 81 0 _ h.1 h.2 (by omega) (by omega)
theorem rLongest_le (g : Rw) : ∀ (n most k : Nat), k ≤ 80 → most ≤ 80 → lp_rLongest g n most k ≤ 80 := by
  intro n
  induction n with
  | zero => intro most k _ hm; exact hm
  | succ n ih =>
    intro most k hk hm
    rw [lp_rLongest]
    by_cases c1 : (80 : Int32) ≤ nI k
    · rw [if_pos c1]
      exact hm
    · rw [if_neg c1]
      have hlt : k < 80 := kN (B := 80) c1 (by omega) (by omega)
      have h1 := next_gt g hlt
      have h2 := cells_le g hk
      by_cases c2 : nI (f_X7_gapCells g k) ≤ nI most
      · rw [if_pos c2]
        exact ih _ _ h1.2 hm
      · rw [if_neg c2]
        exact ih _ _ h1.2 (by omega)
theorem longest_le (g : Rw) : f_X7_longest g ≤ 80 := rLongest_le g _ _ _ (from_le g (by omega)).2 (by omega)
theorem gapCount_eq0 {S : St} {g : Rw} (hg : GapOk S g) : ∀ (n acc k : Nat), k ≤ 80 → (k = 80 ∨ isSt g k) → 80 < k + n → lp_gapCount S (81 - k) k (nI acc) = nI (lp_rGaps g n acc k) := by
  intro n
  induction n with
  | zero => intro acc k hk _ hn; omega
  | succ n ih =>
    intro acc k hk hs hn
    rcases hs with rfl | hs
    · rw [show 81 - 80 = 0 + 1 from rfl, lp_gapCount, if_pos p80, lp_rGaps, if_pos p80]
    · obtain ⟨a1, a2, a3⟩ := hg.at hs
      obtain ⟨u1, u2, u3⟩ := next_up hs
      rw [down1 hs.1, lp_gapCount, if_neg (s80 hs.1), a1, if_neg (nI_nle (by omega) (by omega)), lp_rGaps, if_neg (s80 hs.1), nI_1, to_gapCount u1 u2 (hg.zn hs)]
      exact ih _ _ u2 u3 (by omega)
theorem gapCount_eq {S : St} {g : Rw} (hg : GapOk S g) : f_X4_gapCount S = nI (f_X7_gaps g) := by
  have h := first_up (g := g)
  rw [f_X4_gapCount, f_X7_gaps, show (80 + 1 : Nat) = 81 - 0 from rfl, show (0 : Int32) = nI 0 from rfl, to_gapCount (Nat.zero_le _) h.1 hg.z1]
  exact gapCount_eq0 hg 81 0 _ h.1 h.2 (by omega)
theorem gapStart_eq0 {S : St} {g : Rw} {K : Nat} (hK : K < 2 ^ 31) (hg : GapOk S g) : ∀ (n i k : Nat), k ≤ 80 → (k = 80 ∨ isSt g k) → 80 < k + n → i ≤ K → lp_gapStart S (nI K) (81 - k) k (nI i) = if lp_rGapOf g (nI K) n i k = 80 then -1 else nI (lp_rGapOf g (nI K) n i k) := by
  intro n
  induction n with
  | zero => intro i k hk _ hn; omega
  | succ n ih =>
    intro i k hk hs hn hi
    rcases hs with rfl | hs
    · rw [show 81 - 80 = 0 + 1 from rfl, lp_gapStart, if_pos p80, lp_rGapOf, if_pos p80, ite_self, if_pos rfl]
    · obtain ⟨a1, a2, a3⟩ := hg.at hs
      obtain ⟨u1, u2, u3⟩ := next_up hs
      rw [down1 hs.1, lp_gapStart, if_neg (s80 hs.1), a1, if_neg (nI_nle (by omega) (by omega)), lp_rGapOf]
      by_cases c : i = K
      · subst c
        rw [if_pos rfl, if_pos (nI_le (Nat.le_refl _) hK), if_neg (by have := hs.1; omega)]
      · rw [if_neg (fun z => c ((nI_eq (by omega) hK).mp z)), if_neg (nI_ge (by omega) hK), if_neg (s80 hs.1), nI_1, to_gapStart u1 u2 (hg.zn hs)]
        exact ih _ _ u2 u3 (by omega) (by omega)
theorem gapStart_eq {S : St} {g : Rw} {K : Nat} (hK : K < 2 ^ 31) (hg : GapOk S g) : f_X4_gapStart S (nI K) = if f_X7_gapOf g (nI K) = 80 then -1 else nI (f_X7_gapOf g (nI K)) := by
  have h := first_up (g := g)
  rw [f_X4_gapStart, f_X7_gapOf, show (80 + 1 : Nat) = 81 - 0 from rfl, show (0 : Int32) = nI 0 from rfl, to_gapStart (Nat.zero_le _) h.1 hg.z1]
  exact gapStart_eq0 hK hg 81 0 _ h.1 h.2 (by omega) (by omega)
theorem gapStart_neg0 {S : St} {kk : Int32} (hk : kk < 0) : ∀ (n k i : Nat), k + n = 81 → i ≤ k → lp_gapStart S kk n k (nI i) = if n = 0 then 0 else -1 := by
  intro n
  induction n with
  | zero => intro k i _ _; rfl
  | succ n ih =>
    intro k i h1 h2
    rw [lp_gapStart, if_neg (show ¬ n + 1 = 0 by omega)]
    by_cases c : (80 : Int32) ≤ nI k
    · rw [if_pos c]
    · have hlt : k < 80 := kN (B := 80) c (by omega) (by omega)
      have e1 := ih (k + 1) i (by omega) (by omega)
      have e2 := ih (k + 1) (i + 1) (by omega) (by omega)
      rw [if_neg (show ¬ n = 0 by omega)] at e1 e2
      rw [if_neg c, nI_1, if_neg (show ¬ nI i = kk from fun z => nI_pos (n := i) (by omega) (by rw [z]; exact hk))]
      split
      · exact e1
      · exact e2
theorem gapStart_neg {S : St} {kk : Int32} (hk : kk < 0) : f_X4_gapStart S kk = -1 := gapStart_neg0 hk 81 0 0 (by omega) (by omega)
theorem room_pos {g : Rw} {j r : Nat} (hj : 1 ≤ j ∧ j ≤ 8) (hr : r ≤ 4) (h3 : g 3 = nI r) : (0 : Int32) < nI j + g 3 := by
  rw [h3, nI_add]
  exact nI_lt (a := 0) (by omega) (by omega)
/-- rule 0, and all but rule 1: the first that suffices -/
theorem rRule_keep {g : Rw} {len : Int32} (h2 : ¬ g 2 = 1) : ∀ (n : Nat) (best : Int32) (k : Nat), ¬ best = -1 → lp_rRule g len n best k = best := by
  intro n
  induction n with
  | zero => intro best k _; rfl
  | succ n ih =>
    intro best k hb
    rw [lp_rRule]
    have i1 := ih best (f_X7_nextGap g k) hb
    by_cases c1 : (80 : Int32) ≤ nI k
    · rw [if_pos c1]
    · rw [if_neg c1, if_neg hb, if_neg h2, i1]
      split
      · split <;> rfl
      · split <;> rfl
theorem lowest_eq0 {S : St} {g : Rw} {j r : Nat} (hj : 1 ≤ j ∧ j ≤ 8) (hr : r ≤ 4) (h3 : g 3 = nI r) (ho : sO S = g 3) (h2 : ¬ g 2 = 1) (hg : GapOk S g) : ∀ (n k : Nat), k ≤ 80 → (k = 80 ∨ isSt g k) → 80 < k + n → lp_lowest S (nI j) (81 - k) k = lp_rRule g (nI j) n (-1) k := by
  intro n
  induction n with
  | zero => intro k hk _ hn; omega
  | succ n ih =>
    intro k hk hs hn
    rcases hs with rfl | hs
    · rw [show 81 - 80 = 0 + 1 from rfl, lp_lowest, if_pos p80, lp_rRule, if_pos p80]
    · obtain ⟨a1, a2, a3⟩ := hg.at hs
      obtain ⟨u1, u2, u3⟩ := next_up hs
      rw [down1 hs.1, lp_lowest, if_neg (s80 hs.1), a1, ho, lp_rRule, if_neg (s80 hs.1)]
      by_cases c : nI (f_X7_gapCells g k) < nI j + g 3
      · rw [if_pos c, if_pos c, if_pos rfl, to_lowest (by rw [ho]; exact room_pos hj hr h3) u1 u2 (hg.zn hs)]
        exact ih _ u2 u3 (by omega)
      · rw [if_neg c, if_neg c, if_neg (by decide), if_pos rfl, rRule_keep h2 _ _ _ (fun z => nI_pos (n := k) (by omega) (by rw [z]; decide))]
theorem lowest_eq {S : St} {g : Rw} {j r : Nat} (hj : 1 ≤ j ∧ j ≤ 8) (hr : r ≤ 4) (h3 : g 3 = nI r) (ho : sO S = g 3) (h2 : ¬ g 2 = 1) (hg : GapOk S g) : f_X4_lowestGapFor S (nI j) = f_X7_byRule g (nI j) := by
  have h := first_up (g := g)
  rw [f_X4_lowestGapFor, f_X7_byRule, show (80 + 1 : Nat) = 81 - 0 from rfl, to_lowest (by rw [ho]; exact room_pos hj hr h3) (Nat.zero_le _) h.1 hg.z1]
  exact lowest_eq0 hj hr h3 ho h2 hg 81 _ h.1 h.2 (by omega)
theorem shortest_eq0 {S : St} {g : Rw} {j r : Nat} (hj : 1 ≤ j ∧ j ≤ 8) (hr : r ≤ 4) (h3 : g 3 = nI r) (ho : sO S = g 3) (h2 : g 2 = 1) (hg : GapOk S g) : ∀ (n : Nat) (best size : Int32) (k : Nat), k ≤ 80 → (k = 80 ∨ isSt g k) → 80 < k + n → ((best = -1 ∧ size = 81) ∨ ∃ b, b < 80 ∧ best = nI b ∧ size = nI (f_X7_gapCells g b)) → lp_shortest S (nI j) (81 - k) k best size = lp_rRule g (nI j) n best k := by
  intro n
  induction n with
  | zero => intro best size k hk _ hn; omega
  | succ n ih =>
    intro best size k hk hs hn hb
    rcases hs with rfl | hs
    · rw [show 81 - 80 = 0 + 1 from rfl, lp_shortest, if_pos p80, lp_rRule, if_pos p80]
    · obtain ⟨a1, a2, a3⟩ := hg.at hs
      obtain ⟨u1, u2, u3⟩ := next_up hs
      have h0 : (0 : Int32) < nI j + sO S := by rw [ho]; exact room_pos hj hr h3
      have hk8 := hs.1
      rw [down1 hs.1, lp_shortest, if_neg (s80 hs.1), a1, ho, lp_rRule, if_neg (s80 hs.1)]
      by_cases c : nI (f_X7_gapCells g k) < nI j + g 3
      · rw [if_pos c, if_pos c, if_pos rfl, to_shortest h0 u1 u2 (hg.zn hs)]
        exact ih _ _ _ u2 u3 (by omega) hb
      · rw [if_neg c, if_neg c, if_neg (show ¬ (1 : Int32) = 0 by decide)]
        have i2 := ih (nI k) (nI (f_X7_gapCells g k)) _ u2 u3 (by omega) (Or.inr ⟨k, hs.1, rfl, rfl⟩)
        have i1 := ih best size _ u2 u3 (by omega) hb
        rw [to_shortest (best := best) (size := size) h0 u1 u2 (hg.zn hs), to_shortest (best := nI k) h0 u1 u2 (hg.zn hs), i1, i2, if_pos h2]
        rcases hb with ⟨b1, b2⟩ | ⟨b, b0, b1, b2⟩
        · rw [if_pos b1, b2, if_neg (show ¬ (81 : Int32) ≤ nI (f_X7_gapCells g k) from nI_ge (b := 81) (by omega) (by decide))]
        · rw [if_neg (show ¬ best = -1 from fun z => nI_pos (n := b) (by omega) (by rw [← b1, z]; decide)), b1, b2, nI_clamp (by omega)]
theorem shortest_eq {S : St} {g : Rw} {j r : Nat} (hj : 1 ≤ j ∧ j ≤ 8) (hr : r ≤ 4) (h3 : g 3 = nI r) (ho : sO S = g 3) (h2 : g 2 = 1) (hg : GapOk S g) : f_X4_shortestGapFor S (nI j) = f_X7_byRule g (nI j) := by
  have h := first_up (g := g)
  rw [f_X4_shortestGapFor, f_X7_byRule, show (80 + 1 : Nat) = 81 - 0 from rfl, to_shortest (by rw [ho]; exact room_pos hj hr h3) (Nat.zero_le _) h.1 hg.z1]
  exact shortest_eq0 hj hr h3 ho h2 hg 81 _ _ _ h.1 h.2 (by omega) (Or.inl ⟨rfl, rfl⟩)
/-- rows with the same cells -/
def SameC (g g' : Rw) : Prop := ∀ i, 7 ≤ i → i < 87 → g' i = g i
theorem lpFrom_cong {g g' : Rw} (h : SameC g g') : ∀ (n k : Nat), k ≤ 80 → k + n = 81 → lp_gapFrom g' n k = lp_gapFrom g n k := by
  intro n
  induction n with
  | zero => intro k _ _; rfl
  | succ n ih =>
    intro k hk hn
    rw [lp_gapFrom, lp_gapFrom]
    by_cases c1 : (80 : Int32) ≤ nI k
    · rw [if_pos c1, if_pos c1]
    · have hlt : k < 80 := kN (B := 80) c1 (by omega) (by omega)
      rw [if_neg c1, if_neg c1, h (7 + k) (by omega) (by omega), ih (k + 1) (by omega) (by omega)]
theorem from_cong {g g' : Rw} (h : SameC g g') {j : Nat} (hj : j ≤ 80) : f_X7_gapFrom g' j = f_X7_gapFrom g j := lpFrom_cong h _ j hj (by omega)
theorem lpCells_cong {g g' : Rw} (h : SameC g g') (j : Nat) : ∀ (n k : Nat), k ≤ 80 → k + n = 81 → lp_gapCells g' j n k = lp_gapCells g j n k := by
  intro n
  induction n with
  | zero => intro k _ _; rfl
  | succ n ih =>
    intro k hk hn
    rw [lp_gapCells, lp_gapCells]
    by_cases c1 : (80 : Int32) ≤ nI k
    · rw [if_pos c1, if_pos c1]
    · have hlt : k < 80 := kN (B := 80) c1 (by omega) (by omega)
      rw [if_neg c1, if_neg c1, h (7 + k) (by omega) (by omega), ih (k + 1) (by omega) (by omega)]
theorem cells_cong {g g' : Rw} (h : SameC g g') {j : Nat} (hj : j ≤ 80) : f_X7_gapCells g' j = f_X7_gapCells g j := lpCells_cong h j _ j hj (by omega)
theorem isSt_cong {g g' : Rw} (h : SameC g g') (k : Nat) : isSt g' k ↔ isSt g k := by
  unfold isSt
  constructor
  · intro ⟨a, b, c⟩
    rw [h (7 + k) (by omega) (by omega)] at b
    refine ⟨a, b, ?_⟩
    rcases c with c | c
    · exact Or.inl c
    · rw [h (7 + (k - 1)) (by omega) (by omega)] at c
      exact Or.inr c
  · intro ⟨a, b, c⟩
    rw [h (7 + k) (by omega) (by omega)]
    refine ⟨a, b, ?_⟩
    rcases c with c | c
    · exact Or.inl c
    · rw [h (7 + (k - 1)) (by omega) (by omega)]
      exact Or.inr c
theorem GapOk.cong {S : St} {g g' : Rw} (h : SameC g g') (hg : GapOk S g) : GapOk S g' := fun k hk =>
  ⟨fun z => by rw [cells_cong h (by omega)]; exact (hg k hk).1 ((isSt_cong h k).mp z), fun z => (hg k hk).2 fun y => z ((isSt_cong h k).mpr y)⟩
theorem pick_eq0 {S : St} {g : Rw} {j r : Nat} (hj : 1 ≤ j ∧ j ≤ 8) (hr : r ≤ 4) (h3 : g 3 = nI r) (ho : sO S = g 3) (hg : GapOk S g) : ∀ (n i k : Nat), i < 2 ^ 31 → k ≤ 80 → (k = 80 ∨ isSt g k) → 80 < k + n → lp_pick S (nI j) (81 - k) k (nI i) = (lp_rPick (nI j) n (nI i) k g).1 := by
  intro n
  induction n with
  | zero => intro i k hi hk _ hn; omega
  | succ n ih =>
    intro i k hi hk hs hn
    rcases hs with rfl | hs
    · rw [show 81 - 80 = 0 + 1 from rfl, lp_pick, if_pos p80, lp_rPick, if_pos p80]
    · obtain ⟨a1, a2, a3⟩ := hg.at hs
      obtain ⟨u1, u2, u3⟩ := next_up hs
      have h0 : (0 : Int32) < nI j + sO S := by rw [ho]; exact room_pos hj hr h3
      obtain ⟨e1, e2⟩ := key_room hj.2 hr h3 (g := g) hk
      rw [down1 hs.1, lp_pick, if_neg (s80 hs.1), a1, ho, lp_rPick, if_neg (s80 hs.1)]
      by_cases c : nI (f_X7_gapCells g k) < nI j + g 3
      · rw [if_pos c, if_pos c, if_pos (nI_pos' hi), if_pos (nI_pos' hi), Int32.sub_zero, to_pick h0 (nI_pos' hi) u1 u2 (hg.zn hs)]
        exact ih i _ hi u2 u3 (by omega)
      · rw [if_neg c, if_neg c]
        rw [e1] at c
        rw [show nI (f_X7_gapCells g k) - nI j + 1 = nI (f_X7_gapCells g k - j + 1) by rw [pk_sub (by omega), nI_1]]
        by_cases c3 : nI (f_X7_gapCells g k - j + 1) ≤ nI i
        · rw [if_pos c3, if_pos c3]
          rw [nI_leI (by omega) hi] at c3
          rw [pk_sub c3, to_pick h0 (nI_pos' (by omega)) u1 u2 (hg.zn hs)]
          exact ih _ _ (by omega) u2 u3 (by omega)
        · rw [if_neg c3, if_neg c3]
theorem pick_eq {S : St} {g : Rw} {j r i : Nat} (hj : 1 ≤ j ∧ j ≤ 8) (hr : r ≤ 4) (h3 : g 3 = nI r) (ho : sO S = g 3) (hg : GapOk S g) (hi : i < 2 ^ 31) : lp_pick S (nI j) (80 + 1) 0 (nI i) = (lp_rPick (nI j) 81 (nI i) (f_X7_gapFrom g 0) g).1 := by
  have h := first_up (g := g)
  rw [show (80 + 1 : Nat) = 81 - 0 from rfl, to_pick (by rw [ho]; exact room_pos hj hr h3) (nI_pos' hi) (Nat.zero_le _) h.1 hg.z1]
  exact pick_eq0 hj hr h3 ho hg 81 i _ hi h.1 h.2 (by omega)
theorem places_eq0 {S : St} {g : Rw} {j r : Nat} {dr : Int64} (hj : 1 ≤ j ∧ j ≤ 8) (hr : r ≤ 4) (h3 : g 3 = nI r) (ho : sO S = g 3) (hd : dr = f_X7_chance g * 6364136223846793005 + 1442695040888963407) (hg : GapOk S g) : ∀ (n t k : Nat), t + (80 - k) * 82 < 10000 → k ≤ 80 → (k = 80 ∨ isSt g k) → 80 < k + n → lp_places S (nI j) dr (81 - k) k (nI t) = (lp_rAll g (nI j) n (nI t) k).1 := by
  intro n
  induction n with
  | zero => intro t k ht hk _ hn; omega
  | succ n ih =>
    intro t k ht hk hs hn
    rcases hs with rfl | hs
    · rw [show 81 - 80 = 0 + 1 from rfl, lp_places, if_pos p80, lp_rAll, if_pos p80]
      by_cases c2 : nI t = 0
      · rw [if_pos c2, c2, if_neg (by decide)]
      · have t0 : 0 < t := Nat.pos_of_ne_zero fun z => c2 (by rw [z]; rfl)
        rw [if_neg c2, if_pos (show (0 : Int32) < nI t from nI_lt (a := 0) t0 (by omega)), ← hd]
        obtain ⟨i, hi, e⟩ := ush_n dr
        rw [e, pk_rem hi t0 (by omega)]
        have hc : SameC g (h_X7_layChance g dr) := fun i h1 _ => lay_3 g dr (by omega) (by omega)
        exact pick_eq hj hr ((lay_3 g dr (by omega) (by omega)).trans h3) (ho.trans (lay_3 g dr (by omega) (by omega)).symm) (hg.cong hc) (Nat.lt_of_lt_of_le (Nat.mod_lt _ t0) (by omega))
    · obtain ⟨a1, a2, a3⟩ := hg.at hs
      obtain ⟨u1, u2, u3⟩ := next_up hs
      have hk8 := hs.1
      have h0 : (0 : Int32) < nI j + sO S := by rw [ho]; exact room_pos hj hr h3
      obtain ⟨e1, e2⟩ := key_room hj.2 hr h3 (g := g) hk
      rw [down1 hs.1, lp_places, if_neg (s80 hs.1), a1, ho, lp_rAll, if_neg (s80 hs.1)]
      by_cases c : nI (f_X7_gapCells g k) < nI j + g 3
      · rw [if_pos c, if_pos c, Int32.add_zero, to_places h0 u1 u2 (hg.zn hs)]
        exact ih t _ (by omega) u2 u3 (by omega)
      · rw [if_neg c, if_neg c]
        rw [e1] at c
        rw [show nI (f_X7_gapCells g k) - nI j + 1 = nI (f_X7_gapCells g k - j + 1) by rw [pk_sub (by omega), nI_1], nI_add, to_places h0 u1 u2 (hg.zn hs)]
        exact ih _ _ (by omega) u2 u3 (by omega)
theorem chancePlace_eq {S : St} {g : Rw} {j r : Nat} {dr : Int64} (hj : 1 ≤ j ∧ j ≤ 8) (hr : r ≤ 4) (h3 : g 3 = nI r) (ho : sO S = g 3) (hd : dr = f_X7_chance g * 6364136223846793005 + 1442695040888963407) (hg : GapOk S g) : f_X4_placeByChance S (nI j) dr = (h_X7_byChance g (nI j)).1 := by
  have h := first_up (g := g)
  rw [f_X4_placeByChance, h_X7_byChance, show (80 + 1 : Nat) = 81 - 0 from rfl, show (0 : Int32) = nI 0 from rfl, to_places (by rw [ho]; exact room_pos hj hr h3) (Nat.zero_le _) h.1 hg.z1]
  exact places_eq0 hj hr h3 ho hd hg 81 0 _ (by omega) h.1 h.2 (by omega)
/-- what the reference's row is behind a place by chance -/
theorem rAll_2 {g : Rw} {len : Int32} : ∀ (n : Nat) (t : Int32) (k : Nat), (lp_rAll g len n t k).1 ≠ -1 → (lp_rAll g len n t k).2 = h_X7_layChance g (f_X7_chance g * 6364136223846793005 + 1442695040888963407) := by
  intro n
  induction n with
  | zero => intro t k h; exact absurd rfl h
  | succ n ih =>
    intro t k h
    rw [lp_rAll] at h ⊢
    by_cases c1 : (80 : Int32) ≤ nI k
    · rw [if_pos c1] at h ⊢
      by_cases c2 : t = 0
      · rw [if_pos c2] at h
        exact absurd rfl h
      · rw [if_neg c2, rPick_g]
    · rw [if_neg c1] at h ⊢
      by_cases c2 : nI (f_X7_gapCells g k) < len + g 3
      · rw [if_pos c2] at h ⊢
        exact ih _ _ h
      · rw [if_neg c2] at h ⊢
        exact ih _ _ h
/-- .. and where none was found -/
theorem rPick_some {g : Rw} {j r : Nat} (hj : 1 ≤ j ∧ j ≤ 8) (hr : r ≤ 4) (h3 : g 3 = nI r) : True := trivial
theorem fit_eq0 {S : St} {g : Rw} {j r : Nat} (hj : 1 ≤ j ∧ j ≤ 8) (hr : r ≤ 4) (h3 : g 3 = nI r) (ho : sO S = g 3) (hg : GapOk S g) : ∀ (n : Nat) (acc : Int32) (k : Nat), k ≤ 80 → (k = 80 ∨ isSt g k) → 80 < k + n → lp_fit S (nI j) (81 - k) k acc = lp_rFits g (nI j) n acc k := by
  intro n
  induction n with
  | zero => intro acc k hk _ hn; omega
  | succ n ih =>
    intro acc k hk hs hn
    rcases hs with rfl | hs
    · rw [show 81 - 80 = 0 + 1 from rfl, lp_fit, if_pos p80, lp_rFits, if_pos p80]
    · obtain ⟨a1, a2, a3⟩ := hg.at hs
      obtain ⟨u1, u2, u3⟩ := next_up hs
      have hk8 := hs.1
      have h0 : (0 : Int32) < nI j + sO S := by rw [ho]; exact room_pos hj hr h3
      have hl : ¬ nI j ≤ 0 := nI_nle (by omega) (by omega)
      obtain ⟨e1, e2⟩ := key_room hj.2 hr h3 (g := g) hk
      have i0 := fun a => ih a _ u2 u3 (by omega)
      rw [down1 hs.1, lp_fit, if_neg (s80 hs.1), if_neg hl, a1, ho, lp_rFits, if_neg (s80 hs.1), to_fit h0 hl u1 u2 (hg.zn hs), to_fit h0 hl u1 u2 (hg.zn hs), i0, i0]
      by_cases c : nI (f_X7_gapCells g k) < nI j + g 3
      · rw [if_pos c]
        rw [e1] at c
        rw [h3]
        by_cases c4 : f_X7_gapCells g k ≤ r
        · rw [if_pos, Int32.add_zero]
          by_cases c5 : f_X7_gapCells g k < r
          · exact Int32.le_of_lt (pk_sneg (by omega) c5)
          · rw [show f_X7_gapCells g k = r by omega, Int32.sub_self]
            exact Int32.le_refl 0
        · rw [pk_sub (by omega), if_neg (nI_nle (by omega) (by omega)), pk_div (by omega) (by omega) (by omega), Nat.div_eq_of_lt (by omega), show nI 0 = 0 from rfl, Int32.add_zero]
      · rw [if_neg c]
        rw [e1] at c
        rw [h3, pk_sub (by omega), if_neg (nI_nle (by omega) (by omega))]
theorem fit_eq {S : St} {g : Rw} {j r : Nat} (hj : 1 ≤ j ∧ j ≤ 8) (hr : r ≤ 4) (h3 : g 3 = nI r) (ho : sO S = g 3) (hg : GapOk S g) : f_X4_fittingByGaps S (nI j) = f_X7_fitsIn g (nI j) := by
  have h := first_up (g := g)
  rw [f_X4_fittingByGaps, f_X7_fitsIn, show (80 + 1 : Nat) = 81 - 0 from rfl, to_fit (by rw [ho]; exact room_pos hj hr h3) (nI_nle (by omega) (by omega)) (Nat.zero_le _) h.1 hg.z1]
  exact fit_eq0 hj hr h3 ho hg 81 _ _ h.1 h.2 (by omega)
