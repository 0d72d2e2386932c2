/-- the places from the gap at k on -/
def tot (g : Rw) (j r : Nat) : Nat → Nat → Nat
  | 0, _ => 0
  | n + 1, k => if 80 ≤ k then 0 else (if f_X7_gapCells g k < j + r then 0 else f_X7_gapCells g k - j + 1) + tot g j r n (f_X7_nextGap g k)
theorem tot_cong {g g' : Rw} (h : SameC g g') (j r : Nat) : ∀ (n k : Nat), k ≤ 80 → tot g' j r n k = tot g j r n k := by
  intro n
  induction n with
  | zero => intro k _; rfl
  | succ n ih =>
    intro k hk
    rw [tot, tot]
    by_cases c : 80 ≤ k
    · rw [if_pos c, if_pos c]
    · have h1 := next_gt g (j := k) (by omega)
      have e : f_X7_nextGap g' k = f_X7_nextGap g k := by
        rw [f_X7_nextGap, f_X7_nextGap, cells_cong h hk]
        exact from_cong h (cells_le g hk)
      rw [if_neg c, if_neg c, cells_cong h hk, e, ih _ h1.2]
theorem k80 {k : Nat} (hk : k ≤ 80) : (80 : Int32) ≤ nI k ↔ 80 ≤ k := nI_leI (a := 80) (by omega) (by omega)
theorem tot_le (g : Rw) {j : Nat} (r : Nat) (hj : 1 ≤ j) : ∀ (n k : Nat), k ≤ 80 → tot g j r n k ≤ (80 - k) * 80 := by
  intro n
  induction n with
  | zero => intro k _; exact Nat.zero_le _
  | succ n ih =>
    intro k hk
    rw [tot]
    by_cases c : 80 ≤ k
    · rw [if_pos c]
      exact Nat.zero_le _
    · have h1 := next_gt g (j := k) (by omega)
      have h2 := cells_le g hk
      have h3 := ih _ h1.2
      have h4 : (80 - f_X7_nextGap g k) * 80 + 80 ≤ (80 - k) * 80 := by omega
      rw [if_neg c]
      split <;> omega
theorem rAll_end {g : Rw} {j r : Nat} (hj : 1 ≤ j ∧ j ≤ 8) (hr : r ≤ 4) (h3 : g 3 = nI r) : ∀ (n t k : Nat), t + (80 - k) * 82 < 10000 → k ≤ 80 → 80 < k + n →
    lp_rAll g (nI j) n (nI t) k = if nI (t + tot g j r n k) = 0 then (-1, g) else lp_rPick (nI j) 81 ((jUshr (f_X7_chance g * 6364136223846793005 + 1442695040888963407) 33).toInt32 - (jUshr (f_X7_chance g * 6364136223846793005 + 1442695040888963407) 33).toInt32 / nI (t + tot g j r n k) * nI (t + tot g j r n k)) (f_X7_gapFrom (h_X7_layChance g (f_X7_chance g * 6364136223846793005 + 1442695040888963407)) 0) (h_X7_layChance g (f_X7_chance g * 6364136223846793005 + 1442695040888963407)) := by
  intro n
  induction n with
  | zero => intro t k ht hk hn; omega
  | succ n ih =>
    intro t k ht hk hn
    rw [lp_rAll, tot]
    by_cases c1 : (80 : Int32) ≤ nI k
    · rw [if_pos c1, if_pos ((k80 hk).mp c1), Nat.add_zero]
    · have hlt : k < 80 := kN (B := 80) c1 (by omega) (by omega)
      have hx := next_gt g hlt
      obtain ⟨e1, e2⟩ := key_room hj.2 hr h3 (g := g) hk
      rw [if_neg c1, if_neg (show ¬ 80 ≤ k by omega)]
      by_cases c2 : nI (f_X7_gapCells g k) < nI j + g 3
      · rw [if_pos c2, if_pos (e1.mp c2), Int32.add_zero, Nat.zero_add]
        exact ih t _ (by omega) hx.2 (by omega)
      · rw [if_neg c2, if_neg (fun z => c2 (e1.mpr z))]
        rw [e1] at c2
        rw [pk_sub (by omega), nI_1, nI_add]
        have h := ih (t + (f_X7_gapCells g k - j + 1)) _ (by omega) hx.2 (by omega)
        rw [Nat.add_assoc] at h
        exact h
theorem rPick_ne {g : Rw} {j r : Nat} (hj : 1 ≤ j ∧ j ≤ 8) (hr : r ≤ 4) (h3 : g 3 = nI r) : ∀ (n i k : Nat), i < tot g j r n k → k ≤ 80 → i < 2 ^ 31 → (lp_rPick (nI j) n (nI i) k g).1 ≠ -1 := by
  intro n
  induction n with
  | zero => intro i k hi; exact absurd hi (by simp [tot])
  | succ n ih =>
    intro i k hi hk hi2
    rw [tot] at hi
    rw [lp_rPick]
    by_cases c1 : (80 : Int32) ≤ nI k
    · rw [if_pos ((k80 hk).mp c1)] at hi
      omega
    · have hlt : k < 80 := kN (B := 80) c1 (by omega) (by omega)
      have hx := next_gt g hlt
      obtain ⟨e1, e2⟩ := key_room hj.2 hr h3 (g := g) hk
      rw [if_neg (show ¬ 80 ≤ k by omega)] at hi
      rw [if_neg c1]
      by_cases c2 : nI (f_X7_gapCells g k) < nI j + g 3
      · rw [if_pos (e1.mp c2), Nat.zero_add] at hi
        rw [if_pos c2, if_pos (nI_pos' hi2), Int32.sub_zero]
        exact ih i _ hi hx.2 hi2
      · rw [if_neg (fun z => c2 (e1.mpr z))] at hi
        rw [if_neg c2]
        rw [e1] at c2
        rw [show nI (f_X7_gapCells g k) - nI j + 1 = nI (f_X7_gapCells g k - j + 1) by rw [pk_sub (by omega), nI_1]]
        by_cases c3 : nI (f_X7_gapCells g k - j + 1) ≤ nI i
        · rw [if_pos c3]
          rw [nI_leI (by omega) hi2] at c3
          rw [pk_sub c3]
          exact ih _ _ (by omega) hx.2 (by omega)
        · rw [if_neg c3]
          rw [nI_leI (by omega) hi2] at c3
          rw [nI_add]
          intro z
          have z9 : nI (k + i) = -1 := z
          exact nI_pos (n := k + i) (by omega) (by rw [z9]; decide)
/-- a place by chance: none, and the row stays; or one, and the long of chance has gone on -/
theorem byChance_2 {g : Rw} {j r : Nat} (hj : 1 ≤ j ∧ j ≤ 8) (hr : r ≤ 4) (h3 : g 3 = nI r) : ((h_X7_byChance g (nI j)).1 = -1 ∧ (h_X7_byChance g (nI j)).2 = g) ∨ ((h_X7_byChance g (nI j)).1 ≠ -1 ∧ (h_X7_byChance g (nI j)).2 = h_X7_layChance g (f_X7_chance g * 6364136223846793005 + 1442695040888963407)) := by
  have hf := from_le g (j := 0) (by omega)
  have e := rAll_end hj hr h3 81 0 (f_X7_gapFrom g 0) (by omega) hf.2 (by omega)
  rw [Nat.zero_add] at e
  have ht := tot_le g r hj.1 81 _ hf.2
  rw [h_X7_byChance, show (0 : Int32) = nI 0 from rfl, e]
  by_cases c : nI (tot g j r 81 (f_X7_gapFrom g 0)) = 0
  · rw [if_pos c]
    exact Or.inl ⟨rfl, rfl⟩
  · rw [if_neg c]
    have t0 : 0 < tot g j r 81 (f_X7_gapFrom g 0) := Nat.pos_of_ne_zero fun z => c (by rw [z]; rfl)
    obtain ⟨i, hi, e2⟩ := ush_n (f_X7_chance g * 6364136223846793005 + 1442695040888963407)
    rw [e2, pk_rem hi t0 (by omega)]
    have hc : SameC g (h_X7_layChance g (f_X7_chance g * 6364136223846793005 + 1442695040888963407)) := fun i h1 _ => lay_3 g _ (by omega) (by omega)
    refine Or.inr ⟨rPick_ne hj hr ((lay_3 g _ (by omega) (by omega)).trans h3) _ _ _ ?_ (from_le _ (by omega)).2 (Nat.lt_of_lt_of_le (Nat.mod_lt _ t0) (by omega)), rPick_g _ _ _ _ _⟩
    rw [tot_cong hc j r 81 _ (from_le _ (by omega)).2, from_cong hc (by omega)]
    exact Nat.mod_lt _ t0
theorem mask_bit : ∀ i, i < 64 → (4294967295#64).getLsbD i = decide (i < 32) := by decide +kernel
theorem chance_bv (y : BitVec 64) : ((y.sshiftRight' 32#64).signExtend 32).signExtend 64 <<< 32#64 ||| ((y.signExtend 32).signExtend 64 &&& 4294967295#64) = y := by
  apply BitVec.eq_of_getLsbD_eq
  intro i hi
  rw [BitVec.getLsbD_or, BitVec.getLsbD_and, mask_bit i hi, BitVec.getLsbD_shiftLeft', show (32#64).toNat = 32 from rfl]
  by_cases c : i < 32
  · simp only [c, hi, decide_true, not_true, decide_false, Bool.and_false, Bool.false_and, Bool.false_or, Bool.and_true, BitVec.getLsbD_signExtend, if_true, Bool.true_and]
    rfl
  · have h1 : i - 32 < 32 := by omega
    have h2 : i - 32 < 64 := by omega
    have h3 : 32 + (i - 32) = i := by omega
    simp only [c, hi, h1, h2, h3, decide_true, decide_false, not_false_eq_true, Bool.and_false, Bool.or_false, Bool.true_and, Bool.and_true, BitVec.getLsbD_signExtend, if_true, BitVec.sshiftRight_eq', BitVec.getLsbD_sshiftRight, show (32#64).toNat = 32 from rfl]
    rw [decide_eq_false (show ¬ 64 ≤ i - 32 by omega)]
    rfl
theorem chance_bits (x : Int64) : (jShl ((jShr x 32).toInt32.toInt64) 32) ||| (x.toInt32.toInt64 &&& 4294967295) = x := by
  apply Int64.toBitVec_inj.mp
  show ((x.toBitVec.sshiftRight' (((32 : Int32).toInt64 &&& 63).toBitVec.smod 64)).signExtend 32).signExtend 64 <<< (((32 : Int32).toInt64 &&& 63).toBitVec.smod 64) ||| ((x.toBitVec.signExtend 32).signExtend 64 &&& (4294967295 : Int64).toBitVec) = x.toBitVec
  rw [show (((32 : Int32).toInt64 &&& 63).toBitVec.smod 64) = 32#64 by decide, show (4294967295 : Int64).toBitVec = 4294967295#64 by decide]
  exact chance_bv x.toBitVec
/-- the long of chance: laid and read -/
theorem chance_lay (g : Rw) (x : Int64) : f_X7_chance (h_X7_layChance g x) = x := by
  rw [f_X7_chance, h_X7_layChance, pk_un (by omega), pk_us, pk_us]
  exact chance_bits x
