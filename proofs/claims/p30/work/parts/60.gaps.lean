/-! gaps: the reference looks them up, the class keeps them -/
theorem lpCells_max (g : Rw) (j : Nat) : ∀ (n k : Nat), k ≤ 80 → k + n = 81 → j ≤ k → j + lp_gapCells g j n k < 80 → ¬ g (7 + (j + lp_gapCells g j n k)) = -1 := by
  intro n
  induction n with
  | zero => intro k hk hn; omega
  | succ n ih =>
    intro k hk hn hj h
    rw [lp_gapCells] at h ⊢
    by_cases c1 : (80 : Int32) ≤ nI k
    · rw [if_pos c1] at h
      have := (nI_leI (a := 80) (by omega) (by omega)).mp c1
      omega
    · rw [if_neg c1] at h ⊢
      have hlt : k < 80 := kN (B := 80) c1 (by omega) (by omega)
      by_cases c2 : g (7 + k) = -1
      · rw [if_pos c2] at h ⊢
        exact ih (k + 1) (by omega) (by omega) (by omega) h
      · rw [if_neg c2, show j + (k - j) = k by omega]
        exact c2
theorem cells_max (g : Rw) {j : Nat} (hj : j ≤ 80) (h : j + f_X7_gapCells g j < 80) : ¬ g (7 + (j + f_X7_gapCells g j)) = -1 := lpCells_max g j _ j hj (by omega) (Nat.le_refl _) h
theorem cells_pos (g : Rw) {j : Nat} (hj : j < 80) (h : g (7 + j) = -1) : 1 ≤ f_X7_gapCells g j := by
  rw [f_X7_gapCells, show 81 - j = (80 - j) + 1 by omega, lp_gapCells, if_neg (show ¬ (80 : Int32) ≤ nI j from nI_ge hj (by decide)), if_pos h]
  have := (lpCells_le g j (80 - j) (j + 1) (by omega) (by omega) (by omega)).1
  omega
theorem lpFrom_nf (g : Rw) : ∀ (n k i : Nat), k ≤ 80 → k + n = 81 → k ≤ i → i < lp_gapFrom g n k → ¬ g (7 + i) = -1 := by
  intro n
  induction n with
  | zero => intro k i hk hn; omega
  | succ n ih =>
    intro k i hk hn h1 h2
    rw [lp_gapFrom] at h2
    by_cases c1 : (80 : Int32) ≤ nI k
    · rw [if_pos c1] at h2
      omega
    · rw [if_neg c1] at h2
      have hlt : k < 80 := kN (B := 80) c1 (by omega) (by omega)
      by_cases c2 : g (7 + k) = -1
      · rw [if_pos c2] at h2
        omega
      · rw [if_neg c2] at h2
        by_cases e : i = k
        · rw [e]
          exact c2
        · exact ih (k + 1) i (by omega) (by omega) (by omega) h2
theorem lpFrom_at (g : Rw) : ∀ (n k : Nat), k ≤ 80 → k + n = 81 → lp_gapFrom g n k < 80 → g (7 + lp_gapFrom g n k) = -1 := by
  intro n
  induction n with
  | zero => intro k hk hn; omega
  | succ n ih =>
    intro k hk hn h
    rw [lp_gapFrom] at h ⊢
    by_cases c1 : (80 : Int32) ≤ nI k
    · rw [if_pos c1] at h
      have := (nI_leI (a := 80) (by omega) (by omega)).mp c1
      omega
    · rw [if_neg c1] at h ⊢
      have hlt : k < 80 := kN (B := 80) c1 (by omega) (by omega)
      by_cases c2 : g (7 + k) = -1
      · rw [if_pos c2]
        exact c2
      · rw [if_neg c2] at h ⊢
        exact ih (k + 1) (by omega) (by omega) h
theorem from_nf (g : Rw) {j i : Nat} (hj : j ≤ 80) (h1 : j ≤ i) (h2 : i < f_X7_gapFrom g j) : ¬ g (7 + i) = -1 := lpFrom_nf g _ j i hj (by omega) h1 h2
theorem from_at (g : Rw) {j : Nat} (hj : j ≤ 80) (h : f_X7_gapFrom g j < 80) : g (7 + f_X7_gapFrom g j) = -1 := lpFrom_at g _ j hj (by omega) h
/-- a gap begins at k -/
abbrev isSt (g : Rw) (k : Nat) : Prop := k < 80 ∧ g (7 + k) = -1 ∧ (k = 0 ∨ ¬ g (7 + (k - 1)) = -1)
theorem st_first {g : Rw} (h : f_X7_gapFrom g 0 < 80) : isSt g (f_X7_gapFrom g 0) := by
  refine ⟨h, from_at g (by omega) h, ?_⟩
  by_cases e : f_X7_gapFrom g 0 = 0
  · exact Or.inl e
  · exact Or.inr (from_nf g (j := 0) (by omega) (Nat.zero_le _) (by omega))
theorem nst_first {g : Rw} {i : Nat} (h : i < f_X7_gapFrom g 0) : ¬ isSt g i := fun z => from_nf g (j := 0) (by omega) (Nat.zero_le _) h z.2.1
theorem st_next {g : Rw} {k : Nat} (hk : isSt g k) (h : f_X7_nextGap g k < 80) : isSt g (f_X7_nextGap g k) := by
  have h1 := cells_le g (j := k) (by have := hk.1; omega)
  have h2 := from_le g h1
  rw [f_X7_nextGap] at h ⊢
  refine ⟨h, from_at g h1 h, Or.inr ?_⟩
  by_cases e : f_X7_gapFrom g (k + f_X7_gapCells g k) = k + f_X7_gapCells g k
  · have h3 := from_at g h1 h
    rw [e] at h3 h
    exact absurd h3 (cells_max g (by have := hk.1; omega) h)
  · exact from_nf g h1 (by omega) (by omega)
theorem nst_next {g : Rw} {k i : Nat} (hk : isSt g k) (h1 : k < i) (h2 : i < f_X7_nextGap g k) : ¬ isSt g i := by
  intro z
  have h3 := cells_le g (j := k) (by have := hk.1; omega)
  by_cases c : i < k + f_X7_gapCells g k
  · rcases z.2.2 with y | y
    · omega
    · exact y (cells_free g (j := k) (by have := hk.1; omega) (by omega) (by omega))
  · rw [f_X7_nextGap] at h2
    exact from_nf g h3 (by omega) h2 z.2.1
theorem next_up {g : Rw} {k : Nat} (hk : isSt g k) : k < f_X7_nextGap g k ∧ f_X7_nextGap g k ≤ 80 ∧ (f_X7_nextGap g k = 80 ∨ isSt g (f_X7_nextGap g k)) := by
  have h1 := next_gt g hk.1
  refine ⟨h1.1, h1.2, ?_⟩
  by_cases e : f_X7_nextGap g k = 80
  · exact Or.inl e
  · exact Or.inr (st_next hk (by omega))
theorem first_up {g : Rw} : f_X7_gapFrom g 0 ≤ 80 ∧ (f_X7_gapFrom g 0 = 80 ∨ isSt g (f_X7_gapFrom g 0)) := by
  have h1 := from_le g (j := 0) (by omega)
  refine ⟨h1.2, ?_⟩
  by_cases e : f_X7_gapFrom g 0 = 80
  · exact Or.inl e
  · exact Or.inr (st_first (by omega))
/-- the class's row of gaps tells what the reference finds -/
def GapOk (S : St) (g : Rw) : Prop := ∀ k, k < 80 → (isSt g k → sG S k = nI (f_X7_gapCells g k)) ∧ (¬ isSt g k → sG S k = 0)
theorem GapOk.z1 {S : St} {g : Rw} (h : GapOk S g) : ∀ i, 0 ≤ i → i < f_X7_gapFrom g 0 → sG S i = 0 := fun i _ h2 => (h i (by have := (first_up (g := g)).1; omega)).2 (nst_first h2)
theorem GapOk.zn {S : St} {g : Rw} (h : GapOk S g) {k : Nat} (hk : isSt g k) : ∀ i, k + 1 ≤ i → i < f_X7_nextGap g k → sG S i = 0 := fun i h1 h2 => (h i (by have := (next_up hk).2.1; omega)).2 (nst_next hk (by omega) h2)
theorem GapOk.at {S : St} {g : Rw} (h : GapOk S g) {k : Nat} (hk : isSt g k) : sG S k = nI (f_X7_gapCells g k) ∧ 1 ≤ f_X7_gapCells g k ∧ k + f_X7_gapCells g k ≤ 80 := ⟨(h k hk.1).1 hk, cells_pos g hk.1 hk.2.1, cells_le g (by have := hk.1; omega)⟩
theorem s80 {k : Nat} (h : k < 80) : ¬ (80 : Int32) ≤ nI k := nI_ge h (by decide)
theorem p80 : (80 : Int32) ≤ nI 80 := by decide
